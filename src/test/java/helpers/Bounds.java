import java.util.ArrayList;
import java.util.List;
import java.util.function.Supplier;
import java.util.function.ToLongFunction;

/**
 * What the tests of boundary cases share: papers in known states, all that can be seen of a paper,
 * and calls that must be refused, behind which a paper must look like one on which nothing was called.
 */
final class Bounds {
    static final int NONE = ScruffPaper.NONE;
    /** Numbers that are outside every bound of the document. */
    static final int[] FAR = {Integer.MIN_VALUE, Integer.MIN_VALUE + 1, -1000000001, 1000000001, Integer.MAX_VALUE - 1, Integer.MAX_VALUE};
    /** The 40 bytes on the tape of some(): an E, so that a story can tell whether they are still the same. */
    static final String TAPE = "d*1000+n*100+12345-[7*n+d]%99+2*d-n*n+01";

    private Bounds() {
    }

    static ScruffPaper bare() {
        return new ScruffPaper();
    }

    static ScruffPaper some() {
        return some(TAPE);
    }

    /** Something of everything, and a text on the tape. */
    static ScruffPaper some(String tape) {
        ScruffPaper x = new ScruffPaper();
        x.seed(7);
        x.source(true, 100, 30, 1, 127);
        x.source(false, 0, 5, 2, 127);
        x.source(false, 90, 2, 3, 8);
        Due.law(x, 0, "h50-a+x%5(1=1)");
        Due.law(x, 1, "h20(m<3);h10(1=1)");
        Due.law(x, 2, "hd*7(1=1)");
        Due.way(x, 0, "k(h>40)");
        Due.way(x, 2, "k(h>0&t<3)");
        Due.story(x, 0, "d*10-n");
        Due.story(x, 2, "d*10");
        Due.story(x, 5, "7");
        int[][] notes = {{1, 10, 0}, {2, 6, 0}, {2, 500, 1}, {3, 2, 0}, {5, 488, 1}, {9, 9, 2}};
        for (int[] note : notes) {
            x.note(note[0], note[1], note[2]);
        }
        int[] times = {100, 200, 301, 1000};
        for (int time : times) {
            x.blip(time);
        }
        int[][] nights = {{0, 0}, {3, 30}, {5, 49}, {8, 77}};
        for (int[] night : nights) {
            x.night(night[0], night[1]);
        }
        int[][] tens = {{0, 3}, {5, 9}, {6, 9}, {20, 5}, {39, 8}};
        for (int[] ten : tens) {
            x.there(ten[0], ten[1]);
        }
        if (!tape.isEmpty()) {
            Due.put(x, tape);
        }
        return x;
    }

    /** As much as goes of everything; the tape holds the numbers of the 16 marks of reader 3 on day 6, on which no source comes. */
    static ScruffPaper full() {
        ScruffPaper x = new ScruffPaper();
        x.seed(999);
        for (int i = 0; i < 10; i++) {
            x.source(i % 2 == 0, 60 * i, 3 * i, i % 4, 63);
            Due.law(x, i, "h10" + i + "-a(1=1)");
        }
        String[] ways = {"k(h>0)", "k(h>105)", "k(m%7=1&m<50)", "k(m<96&m%6<3)"};
        for (int k = 0; k < 4; k++) {
            Due.way(x, k, ways[k]);
        }
        for (int k = 0; k < 6; k++) {
            Due.story(x, k, "d*10-n*" + k);
        }
        for (int i = 0; i < 40; i++) {
            x.note(2 * i, (1440 + 300 * (i % 4) - 8 * i) % 1440, i % 4);
            x.blip(1000 * i);
            x.there(i, i * 7 % 11);
        }
        for (int i = 0; i < 30; i++) {
            x.night(i, 10 * i);
        }
        int[] words = new int[50];
        for (int j = 0; j < 16; j++) {
            words[3 * j] = 6 * j;
            words[3 * j + 1] = 6 * j + 2;
        }
        for (int i = 0; i < 50; i += 5) {
            x.feed(words[i], words[i + 1], words[i + 2], words[i + 3], words[i + 4]);
        }
        return x;
    }

    /** All that can be seen of a paper, its tape last, as that is used up by looking at it. */
    static List<Long> sight(ScruffPaper x) {
        List<Long> seen = new ArrayList<>();
        int[] counts = {0, 1, 2, 3, 4, 5, 10, 11, 12, 13, 14, 15, 16, 17, 18, 19, 20, 21, 22, 23, 30, 31, 32, 33, 34, 35};
        for (int what : counts) {
            seen.add((long) x.count(what));
        }
        seeSky(x, seen);
        seeNotesAndBlips(x, seen);
        seeNights(x, seen);
        int bytes = x.count(5);
        if (bytes >= 192) {
            seen.add((long) x.check(3, 6, 16));
        } else if (bytes > 0) {
            seen.add((long) x.story(1, Math.min(bytes, 60)));
            for (int n = 0; n < 4; n++) {
                seen.add((long) x.says(1, n));
            }
        }
        seen.add((long) x.count(5));
        return seen;
    }

    private static void seeSky(ScruffPaper x, List<Long> seen) {
        int[] minutes = {0, 5, 60, 88, 90, 118, 540};
        for (int i = 0; i < 10; i++) {
            seen.add((long) x.height(i, 3, i == 0 ? 88 : i == 1 ? 2 : i == 2 ? 90 : i % 2 == 0 ? 60 * i - 12 : 60 * i));
        }
        for (int minute : minutes) {
            seen.add((long) x.paper(3, minute, 0));
            seen.add((long) x.paper(3, minute, 1));
        }
        for (int k = 0; k < 4; k++) {
            for (int what = NONE; what < 3; what++) {
                seen.add((long) x.marks(k, 3, what));
            }
            seen.add((long) x.passed(k, (k + 1) % 4, 2, 4, 0));
        }
    }

    private static void seeNotesAndBlips(ScruffPaper x, List<Long> seen) {
        for (int shape = 0; shape < 4; shape++) {
            for (int w = 0; w <= 10; w += 10) {
                seen.add((long) x.one(shape, w));
                seen.add((long) x.known(shape, w));
                seen.add((long) x.row(shape, w, 0));
                seen.add((long) x.row(shape, w, 1));
            }
        }
        for (int i = 0; i < 40; i++) {
            seen.add((long) x.counted(i, 1));
        }
        seen.add((long) x.fits(100, 1));
        for (int what = 0; what < 3; what++) {
            seen.add((long) x.beats(95, 105, 10, what));
        }
        seen.add((long) x.sure(95, 105, 10));
        seen.add((long) x.lost(95, 105, 10));
    }

    private static void seeNights(ScruffPaper x, List<Long> seen) {
        for (int k = 0; k < 6; k++) {
            seen.add((long) x.says(k, 0));
            seen.add((long) x.says(k, 3));
            seen.add((long) x.falls(k, 0));
            seen.add((long) x.falls(k, 40));
        }
        for (int error = 0; error <= 4; error++) {
            seen.add((long) x.told(error, 0));
            seen.add((long) x.told(error, 1));
            seen.add((long) x.bound(40, error));
        }
        for (int what = 0; what < 7; what++) {
            seen.add((long) x.pen(6, 2, what));
        }
        seen.add((long) x.pen(1, 1, 0));
        seen.add((long) x.pen(1, 1, 6));
    }

    /** A call that must be refused on a new paper, on one with something of everything, and on a full one. */
    static void refused(String sentence, long want, ToLongFunction<ScruffPaper> call) {
        refused(sentence + " (bare)", want, Bounds::bare, call);
        refused(sentence + " (some)", want, Bounds::some, call);
        refused(sentence + " (full)", want, Bounds::full, call);
    }

    static void refused(String sentence, long want, Supplier<ScruffPaper> maker, ToLongFunction<ScruffPaper> call) {
        leaves(sentence, want, maker, call, maker);
    }

    /** A text with a fault: told so, the tape is empty, and nothing else has changed. */
    static void fault(String sentence, long want, String text, ToLongFunction<ScruffPaper> call) {
        leaves(sentence + ": " + text, want, () -> some(text), call, () -> some(""));
    }

    private static void leaves(String sentence, long want, Supplier<ScruffPaper> before, ToLongFunction<ScruffPaper> call,
            Supplier<ScruffPaper> after) {
        ScruffPaper x = before.get();
        Due.same(sentence, call.applyAsLong(x), want);
        Due.same(sentence + ": first difference in what is seen", difference(sight(x), sight(after.get())), NONE);
    }

    /** That sight() is not blind: a call that is taken must show. */
    static void shows(String call, Supplier<ScruffPaper> maker, ToLongFunction<ScruffPaper> taken) {
        ScruffPaper x = maker.get();
        taken.applyAsLong(x);
        Due.same(call + " shows", difference(sight(x), sight(maker.get())) != NONE, true);
    }

    /** That asking changes nothing: all that is seen of a paper with an empty tape is seen again. */
    static void staysAsSeen(String state, ScruffPaper x) {
        List<Long> first = sight(x);
        Due.same(state + ": seen again, first difference", difference(sight(x), first), NONE);
    }

    private static int difference(List<Long> one, List<Long> other) {
        for (int i = 0; i < Math.max(one.size(), other.size()); i++) {
            if (i >= one.size() || i >= other.size() || !one.get(i).equals(other.get(i))) {
                return i;
            }
        }
        return NONE;
    }
}
