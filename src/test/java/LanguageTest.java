import java.lang.reflect.Constructor;
import java.lang.reflect.Field;
import java.lang.reflect.Method;
import java.lang.reflect.Modifier;
import java.nio.file.Files;
import java.nio.file.Path;
import java.util.ArrayList;
import java.util.Arrays;
import java.util.List;
import java.util.Set;
import java.util.TreeSet;

/** The rules of LANGUAGE.md that can be seen from outside: the face, static state, forbidden words, sizes. */
public final class LanguageTest {
    private static final String[] FACE = {
        "int source(boolean, int, int, int, int)", "boolean seed(int)", "int feed(int, int, int, int, int)", "int law(int, int)",
        "int way(int, int)", "int story(int, int)", "int star(int, int)", "int height(int, int, int)", "int paper(int, int, int)",
        "int marks(int, int, int)", "int passed(int, int, int, int, int)", "int note(int, int, int)", "int one(int, int)",
        "int known(int, int)", "int row(int, int, int)", "int blip(int)", "int fits(int, int)", "int beats(int, int, int, int)",
        "int counted(int, int)", "int sure(int, int, int)", "int lost(int, int, int)", "int night(int, int)", "int says(int, int)",
        "int falls(int, int)", "int told(int, int)", "int bound(int, int)", "boolean there(int, int)", "int pen(int, int, int)",
        "long odds(int, int, int, int, int)", "int more(int, int, int, int, int)", "int check(int, int, int)", "int count(int)"};
    private static final String[] FORBIDDEN = {"throw", "throws", "try", "catch", "finally", "synchronized", "assert", "hashCode",
        "package", "protected", "native", "volatile", "transient", "System.out", "->", "::", "Exact(", "new Object", "float", "double"};
    private static final int LONGEST_METHOD = 60;
    private static final int MOST_PARAMETERS = 7;
    private static final int MOST_CLASSES = 12;
    private static final int MOST_FIELDS = 20;

    public static void main(String[] args) throws Exception {
        face();
        for (Class<?> inside : classes()) {
            statics(inside);
            sizes(inside);
        }
        Due.same("classes are few", classes().size() <= MOST_CLASSES, true);
        words();
        methodLengths();
        Due.end();
    }

    private static List<Class<?>> classes() {
        List<Class<?>> all = new ArrayList<>(List.of(ScruffPaper.class));
        all.addAll(Arrays.asList(ScruffPaper.class.getDeclaredClasses()));
        return all;
    }

    private static void face() {
        int kind = ScruffPaper.class.getModifiers();
        Due.same("public and final", Modifier.isPublic(kind) && Modifier.isFinal(kind), true);
        Set<String> seen = new TreeSet<>();
        Set<String> names = new TreeSet<>();
        for (Method method : ScruffPaper.class.getDeclaredMethods()) {
            if (Modifier.isPublic(method.getModifiers())) {
                names.add(method.getName());
                seen.add(method.toString().replace("public ", "").replace("ScruffPaper.", "").replace(",", ", "));
            }
        }
        Due.same("the methods of the face " + seen, seen.equals(new TreeSet<>(Arrays.asList(FACE))), true);
        for (Class<?> inside : classes()) {
            for (Method method : inside.getDeclaredMethods()) {
                boolean own = inside == ScruffPaper.class && Modifier.isPublic(method.getModifiers());
                Due.same(method + " has a name of its own", own || !names.contains(method.getName()), true);
                boolean open = inside == ScruffPaper.class && !Modifier.isPublic(method.getModifiers());
                Due.same(method + " is hidden", !open || Modifier.isPrivate(method.getModifiers()), true);
            }
        }
        for (Field field : ScruffPaper.class.getDeclaredFields()) {
            boolean none = field.getName().equals("NONE");
            Due.same(field + " is hidden", none ? Modifier.isPublic(field.getModifiers()) : Modifier.isPrivate(field.getModifiers()), true);
        }
        Constructor<?>[] makers = ScruffPaper.class.getDeclaredConstructors();
        Due.same("one constructor", makers.length == 1 && makers[0].getParameterCount() == 0, true);
        for (Class<?> inside : ScruffPaper.class.getDeclaredClasses()) {
            int own = inside.getModifiers();
            Due.same(inside + " is static and hidden", Modifier.isStatic(own) && !Modifier.isPublic(own) && !Modifier.isProtected(own), true);
        }
    }

    private static void statics(Class<?> inside) {
        for (Field field : inside.getDeclaredFields()) {
            if (Modifier.isStatic(field.getModifiers())) {
                Due.same(field + " is final", Modifier.isFinal(field.getModifiers()), true);
                boolean plain = field.getType().isPrimitive() || field.getType() == String.class;
                Due.same(field + " is a constant", plain, true);
            }
        }
    }

    private static void sizes(Class<?> inside) {
        int fields = 0;
        for (Field field : inside.getDeclaredFields()) {
            fields += Modifier.isStatic(field.getModifiers()) ? 0 : 1;
        }
        Due.same(inside + " has few fields", fields <= MOST_FIELDS, true);
        for (Method method : inside.getDeclaredMethods()) {
            Due.same(method + " has few parameters", method.getParameterCount() <= MOST_PARAMETERS, true);
        }
    }

    private static List<String> lines() throws Exception {
        List<String> code = new ArrayList<>();
        for (String line : Files.readAllLines(Path.of("src/main/java/ScruffPaper.java"))) {
            String bare = line.trim();
            boolean comment = bare.startsWith("*") || bare.startsWith("/*") || bare.startsWith("//");
            code.add(comment ? "" : line);
        }
        return code;
    }

    private static void words() throws Exception {
        for (String line : lines()) {
            for (String word : FORBIDDEN) {
                boolean letters = Character.isLetter(word.charAt(0)) && Character.isLetter(word.charAt(word.length() - 1));
                boolean found = letters ? line.matches(".*\\b" + word.replace(".", "\\.") + "\\b.*") : line.contains(word);
                Due.same(word + " in: " + line.trim(), found, false);
            }
            boolean imports = line.startsWith("import");
            Due.same("import: " + line, !imports || line.equals("import java.util.Arrays;"), true);
            Due.same("plain signs: " + line, line.chars().allMatch(c -> c > 0 && c < 128), true);
        }
    }

    /** A method begins with a line that opens a bracket at its class's depth and ends with the bracket that closes it there. */
    private static void methodLengths() throws Exception {
        List<String> lines = lines();
        for (int i = 0; i < lines.size(); i++) {
            String line = lines.get(i);
            String indent = line.substring(0, line.length() - line.stripLeading().length());
            boolean begins = line.endsWith(") {") && (indent.length() == 4 || indent.length() == 8) && !line.contains("if (")
                    && !line.contains("for (") && !line.contains("while (") && !line.contains("switch (");
            if (begins) {
                int end = i;
                while (end < lines.size() && !lines.get(end).equals(indent + "}")) {
                    end++;
                }
                Due.same("length of " + line.trim(), end - i + 1 <= LONGEST_METHOD, true);
            }
        }
    }
}
