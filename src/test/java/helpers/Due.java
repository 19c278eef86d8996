import java.nio.charset.StandardCharsets;

/** What tests share: comparing answers with what is due, and putting texts on the tape. */
final class Due {
    private static int wrong = 0;
    private static int asked = 0;

    private Due() {
    }

    static void same(String what, long got, long want) {
        asked++;
        if (got != want) {
            wrong++;
            System.out.println(what + " answered " + got + ", due is " + want);
        }
    }

    static void same(String what, boolean got, boolean want) {
        same(what, got ? 1 : 0, want ? 1 : 0);
    }

    static boolean anyWrong() {
        return wrong > 0;
    }

    /** The last call of a test's main method. */
    static void end() {
        System.out.println(asked - wrong + " of " + asked + " answers are as due");
        if (wrong > 0 || asked == 0) {
            System.exit(1);
        }
    }

    /** The bytes of a text (signs 0 to 255), filled up with blanks to whole feeds, as ints. */
    static int[] words(String text) {
        byte[] bytes = text.getBytes(StandardCharsets.ISO_8859_1);
        int feeds = Math.max(1, (bytes.length + 19) / 20);
        int[] words = new int[5 * feeds];
        for (int i = 0; i < 4 * words.length; i++) {
            int b = i < bytes.length ? bytes[i] & 255 : 32;
            words[i / 4] |= b << 24 - 8 * (i % 4);
        }
        return words;
    }

    static void put(ScruffPaper x, String text) {
        int[] words = words(text);
        for (int i = 0; i < words.length; i += 5) {
            x.feed(words[i], words[i + 1], words[i + 2], words[i + 3], words[i + 4]);
        }
    }

    static int law(ScruffPaper x, int i, String text) {
        put(x, text);
        return x.law(i, text.length());
    }

    static int way(ScruffPaper x, int k, String text) {
        put(x, text);
        return x.way(k, text.length());
    }

    static int story(ScruffPaper x, int k, String text) {
        put(x, text);
        return x.story(k, text.length());
    }

    /** What an E says on night 0, which is of day 5. */
    static int worth(String text) {
        ScruffPaper x = new ScruffPaper();
        x.night(5, 0);
        same("story " + text, story(x, 0, text), 1);
        return x.says(0, 0);
    }

    /** Whether a C holds in a law, on day 5 at minute 720. */
    static int holds(String condition) {
        ScruffPaper x = new ScruffPaper();
        x.source(false, 720, 30, 1, 127);
        same("law with " + condition, law(x, 0, "h1(" + condition + ")"), 1);
        return x.height(0, 5, 720);
    }
}
