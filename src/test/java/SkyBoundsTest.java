/** Boundary cases of the terms and of promises 1 to 4, 8 to 10 and 33, sentence by sentence. */
public final class SkyBoundsTest {
    private static final int NONE = ScruffPaper.NONE;

    public static void main(String[] args) {
        sightIsNotBlind();
        newObject();
        days();
        minutes();
        starMinute();
        howFar();
        sources();
        wide();
        shapes();
        weekdays();
        thereNotFartherThanWide();
        thereRound();
        heightHasBounds();
        heightWithoutClause();
        lettersOfALaw();
        luck();
        seeds();
        tapeOf200();
        highestByteFirst();
        paperTogether();
        shapeOfTheHighest();
        paperFollowsEachChange();
        paperWhat();
        heightOfNoSource();
        counts();
        Due.end();
    }

    private static void due(String what, long got, long want) {
        Due.same(what, got, want);
    }

    /** One source with a law. */
    private static ScruffPaper source(boolean star, int minute, int wide, int weekdays, String law) {
        ScruffPaper x = new ScruffPaper();
        due("source", x.source(star, minute, wide, 1, weekdays), 0);
        due("law " + law, Due.law(x, 0, law), 1);
        return x;
    }

    private static void sightIsNotBlind() {
        Bounds.shows("source", Bounds::some, x -> x.source(true, 0, 0, 0, 0));
        Bounds.shows("seed", Bounds::some, x -> x.seed(8) ? 1 : 0);
        Bounds.shows("feed", Bounds::some, x -> x.feed(0, 0, 0, 0, 0));
        Bounds.shows("law", () -> Bounds.some("h49-a+x%5(1=1)"), x -> x.law(0, 14));
        Bounds.shows("way", () -> Bounds.some("k(h>41)"), x -> x.way(0, 7));
        Bounds.shows("story", () -> Bounds.some("d*10-2*n"), x -> x.story(0, 8));
        Bounds.shows("note", Bounds::some, x -> x.note(9, 9, 2));
        Bounds.shows("blip", Bounds::some, x -> x.blip(1001));
        Bounds.shows("night", Bounds::some, x -> x.night(0, 0));
        Bounds.shows("there", Bounds::some, x -> x.there(0, 2) ? 1 : 0);
        Bounds.shows("check", Bounds::some, x -> x.check(0, 0, 0));
        ScruffPaper some = Bounds.some();
        due("some: the tape is a story", some.story(1, 40), 1);
        due("some: it says", some.says(1, 3), 8 * 1000 + 3 * 100 + 12345 - (7 * 3 + 8) % 99 + 16 - 9 + 1);
        ScruffPaper full = Bounds.full();
        int[] most = {10, 40, 40, 30, 999, 200};
        for (int what = 0; what < most.length; what++) {
            due("full: count " + what, full.count(what), most[what]);
        }
        due("full: the tape is the marks", full.check(3, 6, 16), NONE);
        Bounds.staysAsSeen("bare", Bounds.bare());
        Bounds.staysAsSeen("some", Bounds.some(""));
    }

    /** "No SOURCES, NOTES, BLIPS, NIGHTS; no TEXTS; SEED 0." */
    private static void newObject() {
        for (int what = 0; what <= 5; what++) {
            due("new: count " + what, Bounds.bare().count(what), 0);
        }
        for (int k = 0; k < 4; k++) {
            due("new: way " + k, Bounds.bare().count(20 + k), 0);
            due("new: no marks of reader " + k, Bounds.bare().marks(k, 0, NONE), 0);
            due("new: no first mark of reader " + k, Bounds.bare().marks(k, 0, 0), NONE);
        }
        for (int k = 0; k < 6; k++) {
            due("new: story " + k, Bounds.bare().count(30 + k), 0);
        }
        for (int i = 0; i < 10; i++) {
            due("new: source " + i, Bounds.bare().height(i, 0, 0), NONE);
        }
        due("new: paper", Bounds.bare().paper(0, 0, 0), 0);
        due("new: its shape", Bounds.bare().paper(0, 0, 1), 4);
        due("new: the pen, 0 at first", Bounds.bare().pen(6, 1, 6), 1000000);
    }

    /** "DAYS 0 to 399": of every call that takes a day. */
    private static void days() {
        due("star day 0", Bounds.bare().star(0, 0), 0);
        due("star day 399", Bounds.bare().star(399, 0), 4 * 399 - 1440);
        ScruffPaper x = source(false, 9, 0, 127, "hd+1(1=1)");
        Due.way(x, 1, "k(m=9&h=d+1)");
        due("height day 0", x.height(0, 0, 9), 1);
        due("height day 399", x.height(0, 399, 9), 400);
        due("paper day 0", x.paper(0, 9, 0), 1);
        due("paper day 399", x.paper(399, 9, 0), 400);
        due("marks day 0", x.marks(1, 0, 2), 1);
        due("marks day 399", x.marks(1, 399, 2), 400);
        due("passed day 0", x.passed(0, 1, 0, 0, 0), 1);
        due("passed to day 399", x.passed(0, 1, 398, 399, 0), 2);
        x.feed(9, 9, 1, 0, 0);
        due("check day 0", x.check(1, 0, 1), NONE);
        x.feed(9, 9, 400, 0, 0);
        due("check day 399", x.check(1, 399, 1), NONE);
        due("note day 0", x.note(0, 0, 0), 0);
        due("note day 399", x.note(399, 0, 0), 1);
        due("night day 0", x.night(0, 0), 0);
        due("night day 399", x.night(399, 0), 1);
        noSuchDay(-1);
        noSuchDay(400);
        for (int day : Bounds.FAR) {
            noSuchDay(day);
        }
    }

    private static void noSuchDay(int day) {
        String no = "no day " + day + ": ";
        Bounds.refused(no + "star", NONE, x -> x.star(day, 0));
        Bounds.refused(no + "height", NONE, x -> x.height(0, day, 0));
        Bounds.refused(no + "paper", NONE, x -> x.paper(day, 0, 0));
        Bounds.refused(no + "marks", NONE, x -> x.marks(0, day, NONE));
        Bounds.refused(no + "passed from", NONE, x -> x.passed(0, 1, day, 0, 0));
        Bounds.refused(no + "passed to", NONE, x -> x.passed(0, 1, 399, day, 0));
        Bounds.refused(no + "passed on it alone", NONE, x -> x.passed(0, 1, day, day, 0));
        Bounds.refused(no + "note", NONE, x -> x.note(day, 0, 0));
        Bounds.refused(no + "night", NONE, x -> x.night(day, 0));
        Bounds.refused(no + "check", -2, x -> x.check(0, day, 0));
    }

    /** "MINUTES 0 to 1439 of the clock": of every call that takes a minute. */
    private static void minutes() {
        ScruffPaper x = new ScruffPaper();
        due("star minute 0", x.star(0, 0), 0);
        due("star minute 1439", x.star(0, 1439), 1439);
        due("source minute 0", x.source(false, 0, 0, 0, 127), 0);
        due("source minute 1439", x.source(false, 1439, 0, 0, 127), 1);
        Due.law(x, 0, "h3(m=0)");
        Due.law(x, 1, "h4(m=1439)");
        due("height minute 0", x.height(0, 0, 0), 3);
        due("height minute 1439", x.height(1, 0, 1439), 4);
        due("paper minute 0", x.paper(0, 0, 0), 3);
        due("paper minute 1439", x.paper(0, 1439, 0), 4);
        due("note minute 0", x.note(0, 0, 0), 0);
        due("note minute 1439", x.note(0, 1439, 0), 1);
        noSuchMinute(-1);
        noSuchMinute(1440);
        for (int minute : Bounds.FAR) {
            noSuchMinute(minute);
        }
    }

    private static void noSuchMinute(int minute) {
        String no = "no minute " + minute + ": ";
        Bounds.refused(no + "star", NONE, x -> x.star(0, minute));
        Bounds.refused(no + "height", NONE, x -> x.height(0, 0, minute));
        Bounds.refused(no + "paper", NONE, x -> x.paper(0, minute, 0));
        Bounds.refused(no + "paper's shape", NONE, x -> x.paper(0, minute, 1));
        Bounds.refused(no + "note", NONE, x -> x.note(399, minute, 0));
        Bounds.refused(no + "source", NONE, x -> x.source(true, minute, 0, 0, 127));
        Bounds.refused(no + "source by clock", NONE, x -> x.source(false, minute, 0, 0, 127));
    }

    /** "THE STAR MINUTE is MINUTE and 4 times DAY, modulo 1440." */
    private static void starMinute() {
        ScruffPaper x = new ScruffPaper();
        due("last before the wrap", x.star(1, 1435), 1439);
        due("the wrap", x.star(1, 1436), 0);
        due("behind the wrap", x.star(1, 1437), 1);
        due("last before a year's wrap", x.star(359, 3), 1439);
        due("a year's wrap", x.star(359, 4), 0);
        due("day 360", x.star(360, 0), 0);
        due("day 360, last before a second wrap", x.star(360, 1439), 1439);
        due("a second wrap", x.star(361, 1436), 0);
        due("the greatest of both", x.star(399, 1439), 1439 + 1596 - 2880);
    }

    /** "HOW FAR two MINUTES are from one another: the shorter way round." */
    private static void howFar() {
        ScruffPaper x = source(false, 0, 30, 127, "hu(1=1)");
        due("u: farthest of all", x.height(0, 0, 0), 720);
        due("u: a minute on", x.height(0, 0, 1), 719);
        due("u: a minute back, round", x.height(0, 0, 1439), 719);
        due("u: farthest on a day when the sun has gone round", x.height(0, 200, 0), 720);
        ScruffPaper noon = source(false, 720, 30, 127, "hu+1(1=1)");
        due("u: at the sun", noon.height(0, 399, 720), 1);
        due("u: a minute before the sun", noon.height(0, 399, 719), 2);
        due("u: the sun's minute wraps on day 180", noon.height(0, 180, 720), 1);
        due("u: and a minute before", noon.height(0, 180, 719), 2);
        ScruffPaper star = source(true, 1439, 30, 127, "ha+1(1=1)");
        due("a: at it", star.height(0, 0, 1439), 1);
        due("a: a minute on, round", star.height(0, 0, 0), 2);
        due("a: farthest on, round", star.height(0, 0, 29), 31);
        due("a: farthest back", star.height(0, 0, 1409), 31);
        due("a: by the star minute, round", star.height(0, 1, 1436), 2);
    }

    /** "SOURCES 0 to 9"; "NONE: no such ones, 10 are there." */
    private static void sources() {
        ScruffPaper x = new ScruffPaper();
        for (int i = 0; i < 10; i++) {
            due("source " + i, x.source(i % 2 == 0, i, i, i % 4, i), i);
        }
        due("an eleventh", x.source(true, 0, 0, 0, 0), NONE);
        Bounds.refused("an eleventh source", NONE, Bounds::full, y -> y.source(true, 5, 5, 1, 127));
    }

    /** "WIDE (0 to 30)". */
    private static void wide() {
        due("wide 0", Bounds.bare().source(true, 0, 0, 0, 0), 0);
        due("wide 30", Bounds.bare().source(true, 0, 30, 0, 0), 0);
        Bounds.refused("wide -1", NONE, x -> x.source(true, 0, -1, 0, 127));
        Bounds.refused("wide 31", NONE, x -> x.source(true, 0, 31, 0, 127));
        for (int far : Bounds.FAR) {
            Bounds.refused("wide " + far, NONE, x -> x.source(false, 0, far, 0, 127));
        }
    }

    /** "a SHAPE (0 to 3)": of a source. */
    private static void shapes() {
        for (int shape = 0; shape < 4; shape++) {
            ScruffPaper x = new ScruffPaper();
            due("shape " + shape, x.source(false, 7, 0, shape, 127), 0);
            Due.law(x, 0, "h1(1=1)");
            due("the paper has it", x.paper(0, 7, 1), shape);
        }
        Bounds.refused("shape -1", NONE, x -> x.source(true, 0, 0, -1, 127));
        Bounds.refused("shape 4", NONE, x -> x.source(true, 0, 0, 4, 127));
        for (int far : Bounds.FAR) {
            Bounds.refused("shape " + far, NONE, x -> x.source(true, 0, 0, far, 127));
        }
    }

    /** "WEEKDAYS (bits 0 to 127; DAY modulo 7: only then)". */
    private static void weekdays() {
        for (int bit = 0; bit < 7; bit++) {
            ScruffPaper only = source(false, 7, 0, 1 << bit, "h1(1=1)");
            ScruffPaper never = source(false, 7, 0, 127 - (1 << bit), "h1(1=1)");
            for (int day = 392; day < 400; day++) {
                due("weekday " + bit + " alone, day " + day, only.height(0, day, 7), day % 7 == bit ? 1 : 0);
                due("weekday " + bit + " alone, paper of day " + day, only.paper(day, 7, 0), day % 7 == bit ? 1 : 0);
                due("all but weekday " + bit + ", day " + day, never.height(0, day, 7), day % 7 == bit ? 0 : 1);
                due("all but weekday " + bit + ", shape of day " + day, never.paper(day, 7, 1), day % 7 == bit ? 4 : 1);
            }
        }
        ScruffPaper x = source(false, 7, 0, 0, "h1(1=1)");
        for (int day = 0; day < 7; day++) {
            due("weekdays 0, day " + day, x.height(0, day, 7), 0);
        }
        Bounds.refused("weekdays -1", NONE, y -> y.source(true, 0, 0, 0, -1));
        Bounds.refused("weekdays 128", NONE, y -> y.source(true, 0, 0, 0, 128));
        for (int far : Bounds.FAR) {
            Bounds.refused("weekdays " + far, NONE, y -> y.source(true, 0, 0, 0, far));
        }
    }

    /** "there on a DAY at each MINUTE at which THE STAR MINUTE (by CLOCK: the MINUTE) is not farther than WIDE from its MINUTE". */
    private static void thereNotFartherThanWide() {
        int[] widths = {0, 1, 29, 30};
        for (int wide : widths) {
            ScruffPaper clock = source(false, 700, wide, 127, "h1(1=1)");
            ScruffPaper star = source(true, 700, wide, 127, "h1(1=1)");
            for (int side = -1; side <= 1; side += 2) {
                String at = "wide " + wide + ", side " + side;
                due(at + ", clock, last", clock.height(0, 100, 700 + side * wide), 1);
                due(at + ", clock, too far", clock.height(0, 100, 700 + side * (wide + 1)), 0);
                due(at + ", clock, last on paper", clock.paper(100, 700 + side * wide, 0), 1);
                due(at + ", clock, too far on paper", clock.paper(100, 700 + side * (wide + 1), 0), 0);
                due(at + ", star, last", star.height(0, 100, 300 + side * wide), 1);
                due(at + ", star, too far", star.height(0, 100, 300 + side * (wide + 1)), 0);
                due(at + ", star, last on paper", star.paper(100, 300 + side * wide, 0), 1);
                due(at + ", star, too far on paper", star.paper(100, 300 + side * (wide + 1), 0), 0);
            }
        }
    }

    /** The same at midnight: a source at either end of the day is there at both. */
    private static void thereRound() {
        ScruffPaper first = source(false, 0, 30, 127, "h1(1=1)");
        due("minute 0, last", first.height(0, 0, 30), 1);
        due("minute 0, first, round", first.height(0, 0, 1410), 1);
        due("minute 0, too far", first.height(0, 0, 31), 0);
        due("minute 0, too far round", first.height(0, 0, 1409), 0);
        due("minute 0, paper round", first.paper(0, 1410, 0), 1);
        due("minute 0, paper too far round", first.paper(0, 1409, 0), 0);
        ScruffPaper last = source(false, 1439, 30, 127, "h1(1=1)");
        due("minute 1439, last, round", last.height(0, 0, 29), 1);
        due("minute 1439, too far round", last.height(0, 0, 30), 0);
        due("minute 1439, paper round", last.paper(0, 29, 0), 1);
        due("minute 1439, paper too far round", last.paper(0, 30, 0), 0);
        ScruffPaper star = source(true, 3, 2, 127, "h1(1=1)");
        due("by star, day 1, its minute lies before midnight", star.paper(1, 1439, 0), 1);
        due("by star, day 1, first", star.paper(1, 1437, 0), 1);
        due("by star, day 1, before the first", star.paper(1, 1436, 0), 0);
        due("by star, day 1, last, round", star.paper(1, 1, 0), 1);
        due("by star, day 1, behind the last", star.paper(1, 2, 0), 0);
        due("by star, day 399", star.paper(399, 1440 + 3 - 156, 0), 1);
    }

    /** "the E (below 0: 0, above 1000: 1000; ..)". */
    private static void heightHasBounds() {
        String[] laws = {"h0-1(1=1)", "h0(1=1)", "h1(1=1)", "h999(1=1)", "h1000(1=1)", "h1001(1=1)", "h99999(1=1)",
            "h32768*32768*2(1=1)", "h32768*32768*2-1(1=1)", "h[0-99999]*9(1=1)"};
        int[] want = {0, 0, 1, 999, 1000, 1000, 1000, 0, 1000, 0};
        for (int i = 0; i < laws.length; i++) {
            ScruffPaper x = source(false, 7, 0, 127, laws[i]);
            due(laws[i], x.height(0, 0, 7), want[i]);
            due(laws[i] + " on paper", x.paper(0, 7, 0), want[i]);
            due(laws[i] + ", its shape", x.paper(0, 7, 1), want[i] == 0 ? 4 : 1);
        }
    }

    /** "of the first CLAUSE whose C holds the E (.. none: 0)". */
    private static void heightWithoutClause() {
        due("none holds", source(false, 7, 0, 127, "h5(1=2)").height(0, 0, 7), 0);
        ScruffPaper x = new ScruffPaper();
        x.source(false, 7, 0, 1, 127);
        due("no law", x.height(0, 0, 7), 0);
        due("no law, shape", x.paper(0, 7, 1), 4);
        due("none of two holds", Due.law(x, 0, "h5(1=2);h6(2=1)"), 2);
        due("none of two", x.height(0, 0, 7), 0);
        due("the last of three", Due.law(x, 0, "h5(1=2);h6(2=1);h7(1=1)"), 3);
        due("the last of three holds", x.height(0, 0, 7), 7);
        due("all of three", Due.law(x, 0, "h5(1=1);h6(1=1);h7(1=1)"), 3);
        due("the first of three holds", x.height(0, 0, 7), 5);
        due("the second E is below 0", Due.law(x, 0, "h5(1=2);h0-6(1=1);h7(1=1)"), 3);
        due("no later clause in its place", x.height(0, 0, 7), 0);
    }

    /** "Letters: d DAY, m MINUTE, s STAR MINUTE, .. f DAY modulo 7": at their ends. */
    private static void lettersOfALaw() {
        due("d 0", source(false, 7, 0, 127, "hd+5(1=1)").height(0, 0, 7), 5);
        due("d 399", source(false, 7, 0, 127, "hd(1=1)").height(0, 399, 7), 399);
        due("m 0", source(false, 0, 0, 127, "hm+5(1=1)").height(0, 9, 0), 5);
        due("m 1439", source(false, 1439, 0, 127, "hm-1000(1=1)").height(0, 9, 1439), 439);
        ScruffPaper s = source(false, 1436, 1, 127, "hs%1000+5(1=1)");
        due("s 1439", s.height(0, 1, 1435), 444);
        due("s wraps to 0", s.height(0, 1, 1436), 5);
        due("s on day 399", s.height(0, 399, 1437), 158);
        ScruffPaper f = source(false, 7, 0, 127, "hf+5(1=1)");
        due("f 0", f.height(0, 0, 7), 5);
        due("f 6", f.height(0, 6, 7), 11);
        due("f wraps to 0", f.height(0, 7, 7), 5);
        due("f on day 399", f.height(0, 399, 7), 5);
    }

    private static int luck(long seed, long day, long minute, long number) {
        return (int) (((seed + 1009 * day + 9176 * minute + 31 * number) * 25173 + 13849) % 65536 % 100);
    }

    /** "x LUCK": at the ends of all that it is made of. */
    private static void luck() {
        int[] seeds = {0, 1, 999};
        int[] days = {0, 1, 399};
        int[] minutes = {0, 1, 1439};
        for (int seed : seeds) {
            ScruffPaper x = new ScruffPaper();
            for (int i = 0; i < 10; i++) {
                x.source(false, 0, 1, 0, 127);
                Due.law(x, i, "hx(1=1)");
            }
            Due.same("seed " + seed, x.seed(seed), true);
            for (int day : days) {
                for (int minute : minutes) {
                    for (int i = 0; i < 10; i += 9) {
                        due("luck of " + seed + ", " + day + ", " + minute + ", " + i, x.height(i, day, minute), luck(seed, day, minute, i));
                    }
                }
            }
        }
    }

    /** "SEED 0 to 999; 0 at first"; "SEED: true; false: no such number." */
    private static void seeds() {
        ScruffPaper x = new ScruffPaper();
        Due.same("seed 999", x.seed(999), true);
        due("it is", x.count(4), 999);
        Due.same("seed 0", x.seed(0), true);
        due("it is", x.count(4), 0);
        Bounds.refused("seed -1", 0, y -> y.seed(-1) ? 1 : 0);
        Bounds.refused("seed 1000", 0, y -> y.seed(1000) ? 1 : 0);
        for (int far : Bounds.FAR) {
            Bounds.refused("seed " + far, 0, y -> y.seed(far) ? 1 : 0);
        }
    }

    /** "how many it has; NONE if that would be more than 200." */
    private static void tapeOf200() {
        ScruffPaper x = new ScruffPaper();
        for (int i = 1; i <= 10; i++) {
            due("feed " + i, x.feed(i, -i, 0, Integer.MIN_VALUE, Integer.MAX_VALUE), 20 * i);
        }
        due("an eleventh feed", x.feed(0, 0, 0, 0, 0), NONE);
        due("the tape stays as it is", x.count(5), 200);
        Bounds.refused("a feed to a full tape", NONE, Bounds::full, y -> y.feed(1, 2, 3, 4, 5));
        due("a text makes room", x.way(0, 1), -1000);
        due("then it begins anew", x.feed(0, 0, 0, 0, 0), 20);
    }

    /** "Twenty bytes come behind the tape, the highest of each int first". */
    private static void highestByteFirst() {
        ScruffPaper x = new ScruffPaper();
        x.night(0, 0);
        x.feed('1' << 24 | '0' << 16 | '2' << 8 | '3', '4' << 24 | '+' << 16 | '2' << 8 | '0',
                '3' << 24 | '4' << 16 | '5' << 8 | '-', '3' << 24 | '0' << 16 | '4' << 8 | '5',
                '6' << 24 | '+' << 16 | '4' << 8 | '0');
        x.feed('5' << 24 | '6' << 16 | '7' << 8 | '-', '1' << 24, 0, 0, 0);
        due("25 bytes", x.story(0, 25), 1);
        due("10234+20345-30456+40567-1", x.says(0, 0), 10234 + 20345 - 30456 + 40567 - 1);
        x.feed(0xff000000, 0, 0, 0, 0);
        due("byte 255 is no sign", x.story(0, 1), -1000);
        x.feed('7' << 24 | 0xff, 0, 0, 0, 0);
        due("nor does it reach the bytes before", x.story(0, 1), 1);
    }

    /** "HEIGHTS of SOURCES that are there, together". */
    private static void paperTogether() {
        ScruffPaper x = new ScruffPaper();
        for (int i = 0; i < 10; i++) {
            x.source(i % 2 == 0, 50, i, 3 - i % 4, 127);
            Due.law(x, i, "h1000(1=1)");
            due("paper of " + (i + 1), x.paper(0, 50, 0), 1000 * (i + 1));
        }
        due("ten at the minute", x.paper(0, 50, 0), 10000);
        due("nine a minute on", x.paper(0, 51, 0), 9000);
        due("the widest alone", x.paper(0, 59, 0), 1000);
        due("none beyond it", x.paper(0, 60, 0), 0);
    }

    /** "its SHAPE: of the highest of them (of like ones the lowest number; all 0, or none there: 4)". */
    private static void shapeOfTheHighest() {
        ScruffPaper x = new ScruffPaper();
        for (int i = 0; i < 3; i++) {
            x.source(false, 50, 0, i, 127);
        }
        due("no laws", x.paper(0, 50, 1), 4);
        Due.law(x, 0, "h0(1=1)");
        Due.law(x, 1, "h0(1=1)");
        Due.law(x, 2, "h0-5(1=1)");
        due("all 0", x.paper(0, 50, 1), 4);
        due("none there", x.paper(0, 51, 1), 4);
        Due.law(x, 2, "h1(1=1)");
        due("one of them 1", x.paper(0, 50, 1), 2);
        Due.law(x, 1, "h1(1=1)");
        due("of like ones the lowest", x.paper(0, 50, 1), 1);
        Due.law(x, 0, "h1(1=1)");
        due("of three like ones the lowest", x.paper(0, 50, 1), 0);
        Due.law(x, 2, "h2(1=1)");
        due("the highest", x.paper(0, 50, 1), 2);
        Due.law(x, 0, "h1001(1=1)");
        Due.law(x, 1, "h1000(1=1)");
        due("like ones by the bound", x.paper(0, 50, 1), 0);
        Due.law(x, 2, "h9999(1=1)");
        due("still the lowest", x.paper(0, 50, 1), 0);
    }

    /** A day whose paper was asked for is asked for again behind each call that changes it. */
    private static void paperFollowsEachChange() {
        ScruffPaper x = source(false, 7, 0, 127, "hx+1(1=1)");
        Due.way(x, 0, "k(h>0)");
        due("by seed 0", x.paper(3, 7, 0), luck(0, 3, 7, 0) + 1);
        due("by seed 0, marked", x.marks(0, 3, 2), luck(0, 3, 7, 0) + 1);
        x.seed(5);
        due("by seed 5, marked", x.marks(0, 3, 2), luck(5, 3, 7, 0) + 1);
        due("by seed 5", x.paper(3, 7, 0), luck(5, 3, 7, 0) + 1);
        Due.law(x, 0, "h2(1=1)");
        due("by a new law, marked", x.marks(0, 3, 2), 2);
        due("by a new law", x.paper(3, 7, 0), 2);
        x.source(false, 7, 0, 3, 127);
        due("by a new source without a law", x.paper(3, 7, 0), 2);
        Due.law(x, 1, "h40(1=1)");
        due("by its law, marked", x.marks(0, 3, 2), 42);
        due("by its law, the shape", x.paper(3, 7, 1), 3);
        Due.way(x, 0, "k(h=0&m<7)");
        due("by a new way", x.marks(0, 3, 1), 6);
        due("another reader stays without one", x.marks(1, 3, NONE), 0);
    }

    /** "THE PAPER, what 0 how high, 1 its SHAPE; NONE: no such ones." */
    private static void paperWhat() {
        Bounds.refused("paper what -1", NONE, x -> x.paper(3, 88, -1));
        Bounds.refused("paper what 2", NONE, x -> x.paper(3, 88, 2));
        for (int far : Bounds.FAR) {
            Bounds.refused("paper what " + far, NONE, x -> x.paper(3, 88, far));
        }
    }

    /** "HEIGHT of SOURCE i (0 if it is not there); NONE: no such ones." */
    private static void heightOfNoSource() {
        ScruffPaper x = source(false, 7, 0, 127, "h5(1=1)");
        due("source 0", x.height(0, 0, 7), 5);
        due("not there", x.height(0, 0, 8), 0);
        due("source 1 is none yet", x.height(1, 0, 7), NONE);
        x.source(false, 7, 0, 1, 127);
        due("now it is", x.height(1, 0, 7), 0);
        due("source 9 of a full sky", Bounds.full().height(9, 0, 540), 109);
        Bounds.refused("source -1", NONE, y -> y.height(-1, 3, 88));
        Bounds.refused("source 10", NONE, y -> y.height(10, 3, 88));
        Bounds.refused("source 3 of three", NONE, Bounds::some, y -> y.height(3, 3, 88));
        Bounds.refused("source 0 of none", NONE, Bounds::bare, y -> y.height(0, 3, 88));
        for (int far : Bounds.FAR) {
            Bounds.refused("source " + far, NONE, y -> y.height(far, 3, 88));
        }
    }

    /** "0 SOURCES, .. 5 bytes of the tape; 10 + i CLAUSES of SOURCE i's LAW, 20 + k .., 30 + k .. NONE for others." */
    private static void counts() {
        ScruffPaper x = Bounds.some();
        int[] plain = {3, 6, 4, 4, 7, 40};
        for (int what = -3; what <= 45; what++) {
            int want = NONE;
            if (what >= 0 && what <= 5) {
                want = plain[what];
            } else if (what >= 10 && what <= 12) {
                want = what == 11 ? 2 : 1;
            } else if (what >= 20 && what <= 23) {
                want = what % 2 == 0 ? 1 : 0;
            } else if (what >= 30 && what <= 35) {
                want = what == 30 || what == 32 || what == 35 ? 1 : 0;
            }
            due("count " + what, x.count(what), want);
        }
        int[] others = {-1, 6, 9, 24, 29, 36};
        for (int what : others) {
            Bounds.refused("count " + what, NONE, y -> y.count(what));
        }
        for (int far : Bounds.FAR) {
            Bounds.refused("count " + far, NONE, y -> y.count(far));
        }
        Bounds.refused("count of source 3's law of three", NONE, Bounds::some, y -> y.count(13));
        Bounds.refused("count of source 0's law of none", NONE, Bounds::bare, y -> y.count(10));
        due("count of source 9's law", Bounds.full().count(19), 1);
        Bounds.refused("count of source 9's law of none", NONE, Bounds::bare, y -> y.count(19));
    }
}
