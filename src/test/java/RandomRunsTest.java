import java.lang.reflect.InvocationTargetException;
import java.lang.reflect.Method;
import java.util.ArrayList;
import java.util.Arrays;
import java.util.HashMap;
import java.util.List;
import java.util.Map;
import java.util.Random;

/** Runs of calls by lot, each answer held against that of the plain paper; the lots are the same every time. */
public final class RandomRunsTest {
    private static final int[] EXTREMES = {Integer.MIN_VALUE, Integer.MIN_VALUE + 1, -1000000, -100001, -3, -2, -1, 0, 1, 2, 3, 4, 5,
        6, 7, 9, 10, 11, 20, 21, 29, 30, 31, 39, 40, 41, 60, 61, 120, 121, 399, 400, 401, 700, 701, 999, 1000, 1001, 1439, 1440,
        2000, 2001, 100000, 100001, 1000000, 1000001, 1000000000, 1000000001, Integer.MAX_VALUE / 12, Integer.MAX_VALUE - 1, Integer.MAX_VALUE};
    private static final int RUNS = 700;
    private static final int CALLS = 120;

    private final Map<String, Method> program = new HashMap<>();
    private final Map<String, Method> plain = new HashMap<>();
    private final List<String> names = new ArrayList<>();
    private final List<String> story = new ArrayList<>();
    private final Random random;
    private final RandomText texts;
    private final ScruffPaper x = new ScruffPaper();
    private final PlainPaper y = new PlainPaper();
    private int lastDay = 0;
    private int lastTime = 0;
    private final int year;
    private final int size;
    private final int begun;

    private RandomRunsTest(long lot) {
        random = new Random(lot);
        texts = new RandomText(random);
        year = lot % 3 == 0 ? lot(4, 40) : lot(4, 400);
        size = lot(0, 2000);
        begun = lot(0, year - 1);
        for (Method method : ScruffPaper.class.getDeclaredMethods()) {
            if (java.lang.reflect.Modifier.isPublic(method.getModifiers())) {
                program.put(method.getName(), method);
                names.add(method.getName());
            }
        }
        names.sort(null);
        for (Method method : PlainPaper.class.getDeclaredMethods()) {
            if (program.containsKey(method.getName())) {
                plain.put(method.getName(), method);
            }
        }
    }

    public static void main(String[] args) throws Exception {
        for (int run = 0; run < RUNS && !Due.anyWrong(); run++) {
            new RandomRunsTest(run).run(run);
        }
        Due.end();
    }

    private void run(int number) throws Exception {
        boolean wild = number % 5 == 4;
        int theme = number % 5;
        if (!wild) {
            prepare(theme);
        }
        for (int i = 0; i < CALLS && !Due.anyWrong(); i++) {
            String name = wild || random.nextInt(10) == 0 ? names.get(random.nextInt(names.size())) : themed(theme);
            step(name, wild);
        }
        if (Due.anyWrong()) {
            System.out.println("run " + number + ":");
            story.forEach(System.out::println);
        }
    }

    private void step(String name, boolean wild) throws Exception {
        if (!wild && (name.equals("law") || name.equals("way") || name.equals("story"))) {
            write(name);
            return;
        }
        int many = program.get(name).getParameterCount();
        if (!wild && name.equals("night") && year % 2 == 0 && random.nextInt(3) > 0) {
            nightOfStory();
            return;
        }
        int[] arguments = wild || random.nextInt(12) == 0 ? extremes(many) : sensible(name);
        if (wild && random.nextInt(3) == 0) {
            arguments = sensible(name);
        }
        call(name, arguments);
        if (!wild && name.equals("check") && random.nextInt(2) == 0) {
            checkRightly();
        }
    }

    private String themed(int theme) {
        String[][] themes = {
            {"paper", "height", "marks", "marks", "marks", "way", "law", "passed", "seed", "check", "check", "source"},
            {"note", "note", "one", "known", "row", "count", "story", "star"},
            {"blip", "fits", "beats", "beats", "sure", "lost", "counted"},
            {"night", "story", "says", "says", "falls", "told", "bound", "there", "there", "there", "there", "pen", "odds", "more"},
        };
        String[] of = themes[theme];
        return of[random.nextInt(of.length)];
    }

    private void prepare(int theme) throws Exception {
        for (int i = 0; i < 4 && theme == 0; i++) {
            call("source", sensible("source"));
            write("law");
            write("way");
        }
        int scale = 1 << random.nextInt(12);
        for (int i = 0; i < 4 && theme == 2; i++) {
            call("blip", lastTime + 1 + 37 * scale * random.nextInt(9) + random.nextInt(6));
        }
        for (int i = 0; i < 3 && theme == 3; i++) {
            write("story");
        }
    }

    private void write(String name) throws Exception {
        char kind = name.equals("law") ? 'h' : name.equals("way") ? 'k' : 'e';
        String text = random.nextInt(3) > 0 ? texts.lively(kind) : texts.next(kind, kind == 'e' ? 60 : 120);
        call("check", 0, 0, 0);
        int[] words = Due.words(text);
        for (int i = 0; i < words.length; i += 5) {
            call("feed", Arrays.copyOfRange(words, i, i + 5));
        }
        int target = random.nextInt(kind == 'h' ? Math.max(1, y.count(0)) : kind == 'k' ? 4 : 6);
        story.add("text " + text);
        call(name, target, text.length());
    }

    /** A night at which one of the stories is nearly right. */
    private void nightOfStory() throws Exception {
        int day = lot(0, 399);
        int k = lot(0, 5);
        PlainPaper later = new PlainPaper();
        for (int i = 0; i < y.count(3); i++) {
            later.night(0, 0);
        }
        later.night(day, 0);
        later.tell(y, k);
        int said = Math.max(-100000, Math.min(100000, later.says(k, y.count(3))));
        call("night", day, said == -100000 ? 0 : Math.max(-100000, Math.min(100000, said + lot(-20, 20))));
    }

    /** A check whose numbers are the right ones, but for some turns of luck. */
    private void checkRightly() throws Exception {
        int k = random.nextInt(4);
        int day = random.nextInt(3);
        int many = Math.min(3, Math.max(0, y.marks(k, day, -1) + random.nextInt(3) - 1));
        call("check", 0, 0, 0);
        int[] words = new int[10];
        for (int i = 0; i < 3 * many; i++) {
            words[i] = y.marks(k, day, i);
        }
        if (random.nextInt(3) == 0) {
            words[random.nextInt(9)]++;
        }
        call("feed", Arrays.copyOfRange(words, 0, 5));
        call("feed", Arrays.copyOfRange(words, 5, 10));
        call("check", k, day, many);
    }

    private int[] extremes(int many) {
        int[] arguments = new int[many];
        for (int i = 0; i < many; i++) {
            arguments[i] = EXTREMES[random.nextInt(EXTREMES.length)];
        }
        return arguments;
    }

    private int lot(int from, int to) {
        return from + random.nextInt(to - from + 1);
    }

    private int[] sensible(String name) {
        switch (name) {
            case "source":
                return new int[] {lot(0, 1), lot(0, 3) == 0 ? lot(0, 1439) : (1400 + lot(0, 99)) % 1440, lot(0, 30), lot(0, 3), lot(0, 2) == 0 ? lot(0, 127) : 127};
            case "seed":
                return new int[] {lot(0, 999)};
            case "height":
                return new int[] {lot(0, 9), lot(0, 8), (1400 + lot(0, 99)) % 1440};
            case "paper":
                return new int[] {lot(0, 8), (1400 + lot(0, 99)) % 1440, lot(0, 1)};
            case "star":
                return new int[] {lot(0, 399), lot(0, 1439)};
            case "marks":
                return new int[] {lot(0, 3), lot(0, 8), lot(-1, 11)};
            case "passed": {
                int from = lot(0, 20);
                return new int[] {lot(0, 3), lot(0, 3), from, from + lot(0, 3), lot(0, 2)};
            }
            case "check":
                return new int[] {lot(0, 3), lot(0, 8), lot(0, 2)};
            case "note":
                lastDay = Math.min(399, lastDay + lot(0, 3) * lot(0, 5));
                return new int[] {lastDay, Math.floorMod(lot(0, 1) == 0 ? 5 - 4 * lastDay + lot(0, 20) : lot(0, 40) - 20, 1440), lot(0, 2)};
            case "one":
            case "known":
                return new int[] {lot(0, 3), lot(0, 1) == 0 ? lot(0, 60) : lot(0, 700)};
            case "row":
                return new int[] {lot(0, 3), lot(0, 1) == 0 ? lot(0, 60) : lot(0, 700), lot(0, 1)};
            default:
                return sensibleToo(name);
        }
    }

    private int[] sensibleToo(String name) {
        int e = lot(0, 1) == 0 ? lot(0, 30) : lot(0, 1000);
        int from = 2 * e + 1 + (lot(0, 1) == 0 ? lot(0, 400) : lot(0, 60000));
        int to = from + lot(0, 2000) / lot(1, 50);
        int a = lot(0, 20);
        int b = lot(0, 20);
        int c = lot(0, Math.min(a, b));
        switch (name) {
            case "blip":
                lastTime = Math.min(1000000000, Math.max(0, lastTime) + lot(1, 60000));
                return new int[] {lastTime};
            case "fits":
                return new int[] {from, e};
            case "beats":
                return new int[] {from, to, e, lot(0, 2)};
            case "sure":
            case "lost":
                return new int[] {from, to, e};
            case "counted":
                return new int[] {lot(0, 39), lot(0, 1) == 0 ? lot(1, 99) : lot(1, 1000000)};
            case "night":
                if (lot(0, 3) > 0) {
                    int day = lot(0, 399);
                    return new int[] {day, PlainPaper.orbit(year, size, day + begun) + lot(-3, 3)};
                }
                return new int[] {lot(0, 399), lot(0, 1) == 0 ? lot(-300, 300) : lot(-2000, 2000)};
            case "says":
                return new int[] {lot(0, 5), lot(0, 5)};
            case "falls":
                return new int[] {lot(0, 5), lot(0, 1) == 0 ? lot(0, 500) : lot(0, 100000)};
            case "told":
                return new int[] {lot(0, 1) == 0 ? lot(0, 500) : lot(0, 100000), lot(0, 1)};
            case "bound":
                if (lot(0, 2) > 0) {
                    return new int[] {year, lot(0, 1) == 0 ? lot(0, 6) : lot(0, 300)};
                }
                return new int[] {lot(0, 1) == 0 ? lot(4, 30) : lot(4, 400), lot(0, 2) == 0 ? lot(0, 300) : lot(0, 4000)};
            case "there":
                return new int[] {lot(0, 39), lot(0, 10)};
            case "pen": {
                int k = lot(1, 6);
                return new int[] {k, lot(k > 4 ? 3 : 1, 10), lot(0, 2) == 0 ? 6 : lot(0, k - 1)};
            }
            case "odds":
                return new int[] {a, b, c, lot(a + b - c - 1, 41), lot(0, 1)};
            case "more":
                return new int[] {a, b, c, lot(1, 400), lot(0, 1)};
            case "count":
                return new int[] {lot(-1, 40)};
            default:
                return extremes(program.get(name).getParameterCount());
        }
    }

    private void call(String name, int... arguments) throws Exception {
        story.add(name + Arrays.toString(arguments));
        long got = answer(program.get(name), x, arguments);
        long want = answer(plain.get(name), y, arguments);
        Due.same(name + Arrays.toString(arguments), got, want);
    }

    private static long answer(Method method, Object object, int[] arguments) throws Exception {
        Object[] boxed = new Object[arguments.length];
        for (int i = 0; i < boxed.length; i++) {
            boolean flag = method.getParameterTypes()[i] == boolean.class;
            boxed[i] = flag ? (Object) (arguments[i] == 1) : (Object) arguments[i];
        }
        try {
            Object answer = method.invoke(object, boxed);
            return answer instanceof Boolean flag ? flag ? 1 : 0 : ((Number) answer).longValue();
        } catch (InvocationTargetException thrown) {
            throw new IllegalStateException(method.getName() + Arrays.toString(arguments) + " threw", thrown.getCause());
        }
    }
}
