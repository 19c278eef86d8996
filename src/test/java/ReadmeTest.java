import java.lang.reflect.Method;
import java.lang.reflect.Modifier;
import java.nio.file.Files;
import java.nio.file.Path;
import java.util.List;
import java.util.regex.Matcher;
import java.util.regex.Pattern;

/** What README.md tells about the class is so: its example answers as its comments say, its table names every call. */
public final class ReadmeTest {
    private static final String BEGIN = "ScruffPaper x = new ScruffPaper();";
    private static final Pattern CALL = Pattern.compile("x\\.(\\w+)\\((.*)\\); +// (-?\\d+|true|false): .+");

    public static void main(String[] args) throws Exception {
        List<String> lines = Files.readAllLines(Path.of("README.md"));
        example(lines);
        table(lines);
        Due.end();
    }

    private static void example(List<String> lines) throws Exception {
        int begin = lines.indexOf(BEGIN);
        Due.same("the example begins with a new object", begin > 0 && lines.get(begin - 1).equals("```java"), true);
        ScruffPaper x = new ScruffPaper();
        int calls = 0;
        for (int i = begin + 1; i < lines.size() && !lines.get(i).equals("```"); i++) {
            Matcher line = CALL.matcher(lines.get(i));
            boolean plain = line.matches();
            Due.same("a call and its answer: " + lines.get(i), plain, true);
            if (plain) {
                Object got = call(x, line.group(1), line.group(2).split(", "));
                Due.same(lines.get(i) + " answered " + got, String.valueOf(got).equals(line.group(3)), true);
                calls++;
            }
        }
        Due.same("the example has calls", calls > 0, true);
    }

    private static Object call(ScruffPaper x, String name, String[] words) throws Exception {
        for (Method method : ScruffPaper.class.getDeclaredMethods()) {
            if (method.getName().equals(name) && method.getParameterCount() == words.length) {
                Object[] arguments = new Object[words.length];
                for (int i = 0; i < words.length; i++) {
                    arguments[i] = argument(words[i]);
                }
                return method.invoke(x, arguments);
            }
        }
        return "nothing, as there is no such call";
    }

    private static Object argument(String word) {
        if (word.equals("true") || word.equals("false")) {
            return word.equals("true");
        }
        return word.equals("ScruffPaper.NONE") ? ScruffPaper.NONE : (Object) Integer.decode(word);
    }

    private static void table(List<String> lines) {
        for (Method method : ScruffPaper.class.getDeclaredMethods()) {
            if (Modifier.isPublic(method.getModifiers())) {
                String name = "`" + method.getName() + "`";
                long rows = lines.stream().filter(line -> line.startsWith("| ") && line.contains(name)).count();
                Due.same("rows of the table with " + name, rows, 1);
            }
        }
    }
}
