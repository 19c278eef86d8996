/** Boundary cases of notes (==== 3) and of promises 13 to 16, sentence by sentence. */
public final class NoteBoundsTest {
    private static final int NONE = ScruffPaper.NONE;

    public static void main(String[] args) {
        fortyNotes();
        daysNeverLess();
        shapesOfNotes();
        widths();
        twoAtLeast();
        arcOfW();
        arcRound();
        arcAtItsWidest();
        byStarAndByClock();
        shapesKeptApart();
        knownFirstDay();
        knownByJustOneOfBoth();
        knownThatDayToo();
        knownStays();
        rowGreatest();
        rowOfLikeOnes();
        rowRound();
        rowWhat();
        fullOfNotes();
        Due.end();
    }

    private static void due(String what, long got, long want) {
        Due.same(what, got, want);
    }

    /** Notes of shape 0 on day 0, where star minutes are minutes. */
    private static ScruffPaper notes(int... minutes) {
        ScruffPaper x = new ScruffPaper();
        for (int minute : minutes) {
            x.note(0, minute, 0);
        }
        return x;
    }

    /** "NOTES 0 to 39"; "NONE: .. 40 are there." */
    private static void fortyNotes() {
        ScruffPaper x = new ScruffPaper();
        for (int i = 0; i < 40; i++) {
            due("note " + i, x.note(i, 1439 - i, i % 4), i);
        }
        due("a 41st", x.note(399, 0, 0), NONE);
        due("40 are there", x.count(1), 40);
        Bounds.refused("a 41st note", NONE, Bounds::full, y -> y.note(399, 0, 0));
        Bounds.refused("a 41st note on the last one's day", NONE, Bounds::full, y -> y.note(78, 0, 0));
    }

    /** "DAYS never less than the one before"; "NONE: .. a DAY before the one told last". */
    private static void daysNeverLess() {
        ScruffPaper x = new ScruffPaper();
        due("day 9", x.note(9, 0, 0), 0);
        due("day 9 again", x.note(9, 0, 0), 1);
        due("day 8", x.note(8, 0, 0), NONE);
        due("day 0", x.note(0, 0, 0), NONE);
        due("day 9, an earlier minute", x.note(9, 0, 1), 2);
        due("day 10", x.note(10, 0, 0), 3);
        due("day 9 no more", x.note(9, 0, 0), NONE);
        Bounds.refused("a day before", NONE, Bounds::some, y -> y.note(8, 0, 0));
        Bounds.refused("days before", NONE, Bounds::some, y -> y.note(0, 0, 0));
        due("the same day", Bounds.some().note(9, 0, 0), 6);
        ScruffPaper second = new ScruffPaper();
        due("the first, day 1", second.note(1, 0, 0), 0);
        due("the second, day 0", second.note(0, 0, 0), NONE);
        ScruffPaper late = new ScruffPaper();
        due("a note refused for its day", late.note(400, 0, 0), NONE);
        due("a note refused for its shape", late.note(399, 0, 4), NONE);
        due("a note refused for its minute", late.note(399, 1440, 0), NONE);
        due("is not the one told last", late.note(0, 0, 0), 0);
    }

    /** "a SHAPE (0 to 3)": of a note, and of every call that takes one. */
    private static void shapesOfNotes() {
        for (int shape = 0; shape < 4; shape++) {
            ScruffPaper x = new ScruffPaper();
            due("note of shape " + shape, x.note(0, 5, shape), 0);
            x.note(1, 5, shape);
            due("one of shape " + shape, x.one(shape, 0), 2);
            due("known of shape " + shape, x.known(shape, 0), 1);
            due("row of shape " + shape, x.row(shape, 0, 0), 1);
        }
        noSuchShape(-1);
        noSuchShape(4);
        for (int far : Bounds.FAR) {
            noSuchShape(far);
        }
    }

    private static void noSuchShape(int shape) {
        Bounds.refused("note of shape " + shape, NONE, x -> x.note(399, 0, shape));
        Bounds.refused("one of shape " + shape, NONE, x -> x.one(shape, 10));
        Bounds.refused("known of shape " + shape, NONE, x -> x.known(shape, 10));
        Bounds.refused("row of shape " + shape, NONE, x -> x.row(shape, 10, 0));
    }

    /** "within w (0 to 700)". */
    private static void widths() {
        ScruffPaper x = notes(0, 700);
        due("one within 0", x.one(0, 0), 0);
        due("one within 700", x.one(0, 700), 3);
        due("row within 0", x.row(0, 0, 0), 1);
        due("row within 700", x.row(0, 700, 0), 2);
        due("known within 0", x.known(0, 0), NONE);
        x.note(1, 0, 0);
        due("known within 700", x.known(0, 700), NONE);
        ScruffPaper y = new ScruffPaper();
        y.note(0, 0, 0);
        y.note(175, 0, 0);
        due("known within 699", y.known(0, 699), 175);
        due("both within 700", y.known(0, 700), NONE);
        y.note(176, 0, 0);
        due("known within 700, a day on", y.known(0, 700), 176);
        due("though it would be within 701", y.known(0, 701), NONE);
        noSuchWidth(-1);
        noSuchWidth(701);
        for (int far : Bounds.FAR) {
            noSuchWidth(far);
        }
    }

    private static void noSuchWidth(int w) {
        Bounds.refused("one within " + w, NONE, x -> x.one(0, w));
        Bounds.refused("known within " + w, NONE, x -> x.known(0, w));
        Bounds.refused("row within " + w, NONE, x -> x.row(0, w, 0));
        Bounds.refused("where the row within " + w + " begins", NONE, x -> x.row(0, w, 1));
    }

    /** "NOTES of a SHAPE (two at least)"; "NONE: no such ones, fewer." */
    private static void twoAtLeast() {
        due("one of no notes", Bounds.bare().one(0, 700), NONE);
        due("one of one note", notes(5).one(0, 700), NONE);
        due("one of two notes", notes(5, 5).one(0, 0), 3);
        due("known by no notes", Bounds.bare().known(0, 700), NONE);
        due("known by one note", notes(5).known(0, 0), NONE);
        due("row of no notes", Bounds.bare().row(0, 700, 0), NONE);
        due("row of no notes, where", Bounds.bare().row(0, 700, 1), NONE);
        due("row of one note", notes(5).row(0, 0, 0), 1);
        due("row of one note, where", notes(5).row(0, 0, 1), 5);
        Bounds.refused("one of one note of shape 2", NONE, Bounds::some, x -> x.one(2, 700));
        Bounds.refused("known by one note of shape 2", NONE, Bounds::some, x -> x.known(2, 700));
        Bounds.refused("row of no note of shape 3", NONE, Bounds::some, x -> x.row(3, 700, 0));
    }

    /** "if their STAR MINUTES all lie on some arc of w (of w and 1 MINUTES, round)". */
    private static void arcOfW() {
        due("on an arc of 10", notes(100, 110, 105).one(0, 10), 3);
        due("not on one of 9", notes(100, 110, 105).one(0, 9), 0);
        due("w 0: all alike", notes(100, 100, 100).one(0, 0), 3);
        due("w 0: one of them off", notes(100, 100, 101).one(0, 0), 0);
        due("w 1", notes(100, 100, 101).one(0, 1), 3);
        due("the order is all one", notes(110, 100, 105).one(0, 10), 3);
        due("the order is all one, too far", notes(105, 110, 99).one(0, 10), 0);
    }

    private static void arcRound() {
        due("over midnight", notes(1439, 0).one(0, 1), 3);
        due("over midnight, too far", notes(1439, 0).one(0, 0), 0);
        due("over midnight, three", notes(1430, 5, 1439).one(0, 15), 3);
        due("over midnight, three, too far", notes(1430, 5, 1439).one(0, 14), 0);
        due("straight is too far, round is not", notes(0, 1340).one(0, 100), 3);
    }

    private static void arcAtItsWidest() {
        due("700 apart", notes(0, 700).one(0, 700), 3);
        due("701 apart", notes(0, 701).one(0, 700), 0);
        due("739 apart is 701 round", notes(0, 739).one(0, 700), 0);
        due("740 apart is 700 round", notes(0, 740).one(0, 700), 3);
        due("each two near, not all on one arc", notes(0, 480, 960).one(0, 700), 0);
        due("each two within 700, all on 960", notes(0, 400, 700, 1000).one(0, 700), 0);
    }

    /** "bits 1 BY STAR, 2 BY CLOCK". */
    private static void byStarAndByClock() {
        ScruffPaper x = new ScruffPaper();
        x.note(0, 1000, 0);
        x.note(10, 960, 0);
        due("by star alone", x.one(0, 0), 1);
        due("by star alone still", x.one(0, 39), 1);
        due("by both", x.one(0, 40), 3);
        x.note(10, 960, 1);
        x.note(20, 960, 1);
        due("by clock alone", x.one(1, 0), 2);
        due("by clock alone still", x.one(1, 39), 2);
        due("by both", x.one(1, 40), 3);
        ScruffPaper wrap = new ScruffPaper();
        wrap.note(0, 2, 0);
        wrap.note(1, 1438, 0);
        due("the star minute wraps", wrap.one(0, 0), 1);
        due("both by an arc over midnight", wrap.one(0, 4), 3);
        due("and not by less", wrap.one(0, 3), 1);
        ScruffPaper year = new ScruffPaper();
        year.note(0, 7, 0);
        year.note(360, 7, 0);
        due("day 360 is as day 0", year.one(0, 0), 3);
    }

    private static void shapesKeptApart() {
        ScruffPaper x = notes(100, 110);
        x.note(0, 500, 1);
        x.note(5, 900, 2);
        due("shape 0 alone", x.one(0, 10), 3);
        due("shape 1 has one", x.one(1, 10), NONE);
        due("row of shape 0", x.row(0, 700, 0), 2);
        due("row of shape 1", x.row(1, 700, 1), 500);
    }

    /** "KNOWN: the first DAY by which the NOTES of a SHAPE told up to that DAY (..; two at least) are ONE by just one of both." */
    private static void knownFirstDay() {
        ScruffPaper x = new ScruffPaper();
        x.note(0, 100, 0);
        x.note(0, 100, 0);
        due("one by both on day 0", x.known(0, 0), NONE);
        x.note(1, 100, 0);
        due("by clock from day 1", x.known(0, 0), 1);
        due("by clock from day 1, 3 apart", x.known(0, 3), 1);
        due("4 apart: both", x.known(0, 4), NONE);
        x.note(2, 100, 0);
        due("4 apart: by clock from day 2", x.known(0, 4), 2);
        due("7 apart: from day 2", x.known(0, 7), 2);
        due("8 apart: both", x.known(0, 8), NONE);
        due("0 apart still from day 1", x.known(0, 0), 1);
        ScruffPaper last = new ScruffPaper();
        last.note(0, 100, 0);
        last.note(399, 100, 0);
        due("known on day 399", last.known(0, 0), 399);
        ScruffPaper first = notes(100, 200);
        due("day 0 alone is one by both or by none", first.known(0, 99), NONE);
        due("day 0 alone is one by both or by none, wide", first.known(0, 100), NONE);
    }

    private static void knownByJustOneOfBoth() {
        ScruffPaper x = new ScruffPaper();
        x.note(0, 100, 0);
        x.note(5, 80, 0);
        due("by star", x.known(0, 0), 5);
        due("by star still", x.known(0, 19), 5);
        due("by both is not known", x.known(0, 20), NONE);
        ScruffPaper neither = new ScruffPaper();
        neither.note(0, 100, 0);
        neither.note(5, 700, 0);
        neither.note(9, 100, 0);
        due("by neither is not known", neither.known(0, 10), NONE);
        ScruffPaper later = new ScruffPaper();
        later.note(0, 100, 0);
        later.note(1, 98, 0);
        later.note(5, 80, 0);
        due("by both at first, by star from day 5", later.known(0, 4), 5);
    }

    /** "told up to that DAY (this, too ..)": of all that is told on it. */
    private static void knownThatDayToo() {
        ScruffPaper x = new ScruffPaper();
        x.note(0, 100, 0);
        x.note(5, 100, 0);
        due("by clock on day 5", x.known(0, 10), 5);
        x.note(5, 700, 0);
        due("another on day 5 undoes it", x.known(0, 10), NONE);
        x.note(5, 700, 1);
        due("one of another shape does not matter", x.known(0, 10), NONE);
        ScruffPaper y = new ScruffPaper();
        y.note(0, 100, 0);
        y.note(5, 90, 0);
        due("by both on day 5", y.known(0, 10), NONE);
        y.note(5, 80, 0);
        due("by star through another on day 5", y.known(0, 10), 5);
        due("by neither within less", y.known(0, 9), NONE);
        due("by star still", y.known(0, 19), 5);
        due("by both within more", y.known(0, 20), NONE);
    }

    private static void knownStays() {
        ScruffPaper x = new ScruffPaper();
        x.note(0, 100, 0);
        x.note(5, 100, 0);
        x.note(6, 700, 0);
        due("what comes later does not matter", x.known(0, 10), 5);
        due("though it is one no more", x.one(0, 10), 0);
    }

    /** "THE ROW: the greatest set of NOTES of a SHAPE that are ONE BY STAR within w". */
    private static void rowGreatest() {
        ScruffPaper x = notes(10, 20, 30, 500, 505);
        due("within 0", x.row(0, 0, 0), 1);
        due("within 4", x.row(0, 4, 0), 1);
        due("within 5", x.row(0, 5, 0), 2);
        due("within 5, where", x.row(0, 5, 1), 500);
        due("within 19", x.row(0, 19, 0), 2);
        due("within 20", x.row(0, 20, 0), 3);
        due("within 20, where", x.row(0, 20, 1), 10);
        due("within 494", x.row(0, 494, 0), 4);
        due("within 495", x.row(0, 495, 0), 5);
        due("within 495, where", x.row(0, 495, 1), 10);
        ScruffPaper star = new ScruffPaper();
        star.note(0, 100, 0);
        star.note(10, 60, 0);
        star.note(10, 100, 0);
        due("by star, not by clock", star.row(0, 0, 0), 2);
        due("its star minute", star.row(0, 0, 1), 100);
    }

    /** "of like ones by the arc that begins at the least STAR MINUTE". */
    private static void rowOfLikeOnes() {
        ScruffPaper x = notes(800, 300, 1200);
        due("three of one each", x.row(0, 10, 0), 1);
        due("the least", x.row(0, 10, 1), 300);
        ScruffPaper y = notes(800, 805, 300, 305, 1200);
        due("two pairs", y.row(0, 5, 0), 2);
        due("the least pair", y.row(0, 5, 1), 300);
        ScruffPaper twice = notes(30, 20, 10);
        due("two that overlap", twice.row(0, 10, 0), 2);
        due("the one that begins first", twice.row(0, 10, 1), 10);
        ScruffPaper star = new ScruffPaper();
        star.note(0, 50, 0);
        star.note(2, 30, 0);
        due("least by star minute", star.row(0, 5, 1), 38);
        ScruffPaper wrapped = new ScruffPaper();
        wrapped.note(0, 50, 0);
        wrapped.note(10, 1410, 0);
        due("a star minute that has wrapped is the least", wrapped.row(0, 5, 1), 10);
    }

    private static void rowRound() {
        ScruffPaper x = notes(1435, 5);
        due("round", x.row(0, 10, 0), 2);
        due("it begins before midnight", x.row(0, 10, 1), 1435);
        due("too far", x.row(0, 9, 0), 1);
        due("too far, the least", x.row(0, 9, 1), 5);
        ScruffPaper y = notes(1435, 5, 15);
        due("of like ones the one behind midnight", y.row(0, 10, 0), 2);
        due("begins at the least", y.row(0, 10, 1), 5);
        due("all three", y.row(0, 20, 0), 3);
        due("begin before midnight", y.row(0, 20, 1), 1435);
        ScruffPaper ends = notes(1439, 0);
        due("the ends of the day", ends.row(0, 1, 0), 2);
        due("the ends of the day, where", ends.row(0, 1, 1), 1439);
    }

    /** "what 0 how many NOTES, 1 at which STAR MINUTE the arc begins (that of a NOTE); NONE: no such ones". */
    private static void rowWhat() {
        ScruffPaper x = notes(0, 0);
        due("how many", x.row(0, 0, 0), 2);
        due("at star minute 0", x.row(0, 0, 1), 0);
        due("at that of a note, not before it", notes(50, 55).row(0, 700, 1), 50);
        Bounds.refused("row what -1", NONE, y -> y.row(0, 10, -1));
        Bounds.refused("row what 2", NONE, y -> y.row(0, 10, 2));
        for (int far : Bounds.FAR) {
            Bounds.refused("row what " + far, NONE, y -> y.row(0, 10, far));
        }
    }

    private static void fullOfNotes() {
        ScruffPaper x = new ScruffPaper();
        for (int i = 0; i < 40; i++) {
            x.note(i, 36 * i, 3);
        }
        // Star minutes 0, 40, .. 1400, and the last four notes at 0 to 120 again.
        due("forty notes all round", x.one(3, 700), 0);
        due("18 places and the four that are there twice", x.row(3, 700, 0), 22);
        due("the least arc that has all four", x.row(3, 700, 1), 0);
        ScruffPaper y = new ScruffPaper();
        for (int i = 0; i < 40; i++) {
            y.note(2 * i, 1000, 3);
        }
        due("forty notes by clock", y.one(3, 311), 2);
        due("forty notes by both", y.one(3, 312), 3);
        due("a row of forty", y.row(3, 312, 0), 40);
        due("a row of thirty-nine", y.row(3, 311, 0), 39);
        due("forty notes, known", y.known(3, 0), 2);
        due("forty notes, known by the last", y.known(3, 311), 78);
        due("forty notes, not known", y.known(3, 312), NONE);
    }
}
