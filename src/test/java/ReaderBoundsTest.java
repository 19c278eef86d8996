/** Boundary cases of readers, their marks and checks: promises 11, 12 and 32, sentence by sentence. */
public final class ReaderBoundsTest {
    private static final int NONE = ScruffPaper.NONE;
    private static final int NOT_SO_MANY = -2;

    public static void main(String[] args) {
        markIsALongestRow();
        marksOfNoReader();
        marksWhat();
        mostMarks();
        greatestPaperOfAMark();
        paperAMinuteBefore();
        greatestInTenMinutesBefore();
        marksEndedBefore();
        otherLetters();
        daysStandAlone();
        passedOver();
        passedDays();
        passedWhat();
        passedByNoReader();
        checkIsRight();
        checkFirstThatIsNotSo();
        checkLacking();
        checkTooMany();
        checkTape();
        checkOfNoReader();
        Due.end();
    }

    private static void due(String what, long got, long want) {
        Due.same(what, got, want);
    }

    private static ScruffPaper reader(String way) {
        ScruffPaper x = new ScruffPaper();
        due("way " + way, Due.way(x, 0, way) > 0 ? 1 : 0, 1);
        return x;
    }

    /** Paper as told, at some minutes, for a minute each. */
    private static ScruffPaper withPaper(int[] minutes, int[] heights) {
        ScruffPaper x = new ScruffPaper();
        for (int i = 0; i < minutes.length; i++) {
            x.source(false, minutes[i], 0, i % 4, 127);
            Due.law(x, i, "h" + heights[i] + "(1=1)");
        }
        return x;
    }

    private static void marksAre(String what, ScruffPaper x, int... bounds) {
        due(what + ", how many", x.marks(0, 0, NONE), bounds.length / 2);
        for (int i = 0; i < bounds.length / 2; i++) {
            due(what + ", first of " + i, x.marks(0, 0, 3 * i), bounds[2 * i]);
            due(what + ", last of " + i, x.marks(0, 0, 3 * i + 1), bounds[2 * i + 1]);
        }
        due(what + ", behind the last", x.marks(0, 0, 3 * (bounds.length / 2)), NONE);
    }

    /** "a MARK is a longest row of MINUTES at each of which some k holds". */
    private static void markIsALongestRow() {
        marksAre("the whole day", reader("k(1=1)"), 0, 1439);
        marksAre("never", reader("k(1=2)"));
        marksAre("minute 0", reader("k(m=0)"), 0, 0);
        marksAre("minute 1439", reader("k(m=1439)"), 1439, 1439);
        marksAre("the day's both ends are two", reader("k(m<2);k(m>1437)"), 0, 1, 1438, 1439);
        marksAre("all but one minute", reader("k(!m=700)"), 0, 699, 701, 1439);
        marksAre("all but the first", reader("k(m>0)"), 1, 1439);
        marksAre("all but the last", reader("k(m<1439)"), 0, 1438);
        marksAre("two k that follow one another are one mark", reader("k(m=5);k(m=6)"), 5, 6);
        marksAre("two k with a minute between", reader("k(m=5);k(m=7)"), 5, 5, 7, 7);
        marksAre("two k at the same minutes", reader("k(m>4&m<8);k(m=7|m=8)"), 5, 8);
    }

    /** "MARKS of READER k on a DAY ..; NONE: no such ones." */
    private static void marksOfNoReader() {
        Bounds.refused("marks of reader -1", NONE, x -> x.marks(-1, 0, NONE));
        Bounds.refused("marks of reader 4", NONE, x -> x.marks(4, 0, NONE));
        for (int far : Bounds.FAR) {
            Bounds.refused("marks of reader " + far, NONE, x -> x.marks(far, 0, NONE));
        }
        due("a reader without a way", Bounds.some().marks(3, 3, NONE), 0);
        due("a reader without a way has no mark", Bounds.some().marks(3, 3, 0), NONE);
    }

    /** "what NONE how many, 3 i the first MINUTE of MARK i, 3 i + 1 the last, 3 i + 2 its greatest PAPER". */
    private static void marksWhat() {
        ScruffPaper x = Bounds.full();
        due("the 16th mark's first", x.marks(3, 6, 45), 90);
        due("the 16th mark's last", x.marks(3, 6, 46), 92);
        due("the 16th mark's greatest paper", x.marks(3, 6, 47), 0);
        Bounds.refused("a 17th mark's first", NONE, Bounds::full, y -> y.marks(3, 6, 48));
        Bounds.refused("a 17th mark's last", NONE, Bounds::full, y -> y.marks(3, 6, 49));
        Bounds.refused("what -2", NONE, y -> y.marks(0, 3, -2));
        Bounds.refused("what -3", NONE, y -> y.marks(0, 3, -3));
        for (int far : Bounds.FAR) {
            Bounds.refused("what " + far, NONE, y -> y.marks(0, 3, far));
        }
    }

    private static void mostMarks() {
        ScruffPaper x = reader("k(m%2=0)");
        due("720 marks", x.marks(0, 399, NONE), 720);
        due("the last one's first", x.marks(0, 399, 3 * 719), 1438);
        due("the last one's last", x.marks(0, 399, 3 * 719 + 1), 1438);
        due("the last one's paper", x.marks(0, 399, 3 * 719 + 2), 0);
        due("none behind it", x.marks(0, 399, 3 * 720), NONE);
        due("720 marks that end with the day", reader("k(m%2=1)").marks(0, 0, 3 * 719 + 1), 1439);
    }

    private static void greatestPaperOfAMark() {
        ScruffPaper x = withPaper(new int[] {10, 12, 19, 20, 9}, new int[] {5, 30, 7, 99, 99});
        Due.way(x, 0, "k(m>9&m<20)");
        due("neither the minute before nor the one behind", x.marks(0, 0, 2), 30);
        Due.way(x, 0, "k(m=9|m=20)");
        due("first minute", x.marks(0, 0, 2), 99);
        due("one minute alone", x.marks(0, 0, 5), 99);
        Due.way(x, 0, "k(m>12&m<20)");
        due("the last minute counts", x.marks(0, 0, 2), 7);
        Due.way(x, 0, "k(m>11&m<20)");
        due("the first minute counts", x.marks(0, 0, 2), 30);
    }

    /** "b a MINUTE before (0 at MINUTE 0)". */
    private static void paperAMinuteBefore() {
        ScruffPaper x = withPaper(new int[] {0, 1439, 50}, new int[] {8, 9, 7});
        Due.way(x, 0, "k(b=8)");
        marksAre("b of minute 0 at minute 1", x, 1, 1);
        Due.way(x, 0, "k(b=9)");
        marksAre("b of the day's last minute nowhere", x);
        Due.way(x, 0, "k(b=7)");
        marksAre("b a minute behind", x, 51, 51);
        Due.way(x, 0, "k(m=0&b=0)");
        marksAre("0 at minute 0", x, 0, 0);
    }

    /** "g the greatest in the ten MINUTES before (of that DAY; 0)". */
    private static void greatestInTenMinutesBefore() {
        ScruffPaper x = withPaper(new int[] {0, 1439, 50, 55, 60}, new int[] {8, 9, 7, 5, 6});
        Due.way(x, 0, "k(g=8)");
        marksAre("of minute 0 from minute 1 to minute 10", x, 1, 10);
        Due.way(x, 0, "k(g=9)");
        marksAre("of minute 1439 nowhere: of that day", x);
        Due.way(x, 0, "k(m<11&g=0)");
        marksAre("0 at minute 0, not now's", x, 0, 0);
        Due.way(x, 0, "k(g=7)");
        marksAre("for ten minutes, a less one between", x, 51, 60);
        Due.way(x, 0, "k(g=5)");
        marksAre("the less one is never the greatest", x);
        Due.way(x, 0, "k(g=6)");
        marksAre("the next greatest", x, 61, 70);
        ScruffPaper y = withPaper(new int[] {50, 51, 52, 58}, new int[] {9, 8, 7, 7});
        Due.way(y, 0, "k(g=8)");
        marksAre("for a minute when the greater has gone", y, 61, 61);
        Due.way(y, 0, "k(g=7)");
        marksAre("as long as the last of like ones", y, 62, 68);
        ScruffPaper now = withPaper(new int[] {50, 52, 63}, new int[] {5, 6, 4});
        Due.way(now, 0, "k(g=5)");
        marksAre("not the greater one of now", now, 51, 52);
        Due.way(now, 0, "k(g=6)");
        marksAre("but a minute behind it", now, 53, 62);
        Due.way(now, 0, "k(g=0&m>60&m<70)");
        marksAre("nor that of now when the greater one has gone", now, 63, 63);
        Due.way(now, 0, "k(g=4)");
        marksAre("till a minute behind it", now, 64, 73);
    }

    /** "t how many MARKS of that DAY had their last MINUTE ahead of the MINUTE before". */
    private static void marksEndedBefore() {
        marksAre("not yet a minute behind it", reader("k(m=5);k(t=1&m<9)"), 5, 5, 7, 8);
        marksAre("0 at first", reader("k(t=0&m<3)"), 0, 2);
        marksAre("a mark that goes on does not count", reader("k(t=0)"), 0, 1439);
        marksAre("each one that has ended", reader("k(m%3=0&t<4)"), 0, 0, 3, 3, 6, 6, 9, 9);
        marksAre("one that ends at minute 0", reader("k(m=0);k(t=1&m=2)"), 0, 0, 2, 2);
        marksAre("it is not told at minute 1", reader("k(m=0);k(t=1&m=1)"), 0, 0);
        marksAre("a longer one", reader("k(m<5);k(t=1&m<8)"), 0, 4, 6, 7);
        due("719 have ended at the last minute", reader("k(m%2=0);k(t=719&m=1439)").marks(0, 0, 3 * 719 + 1), 1439);
        due("719 have ended at the last minute but one", reader("k(m%2=0&m<1438);k(t=719&m=1438)").marks(0, 0, NONE), 720);
    }

    /** "l SHAPE, m, s, d, f as above". */
    private static void otherLetters() {
        ScruffPaper x = withPaper(new int[] {10, 11, 12, 13}, new int[] {5, 5, 5, 5});
        for (int shape = 0; shape < 4; shape++) {
            Due.way(x, 0, "k(l=" + shape + ")");
            marksAre("l is " + shape, x, 10 + shape, 10 + shape);
        }
        Due.way(x, 0, "k(l=4)");
        marksAre("l is 4 where the paper is 0", x, 0, 9, 14, 1439);
        Due.way(x, 0, "k(s=0)");
        due("s wraps", x.marks(0, 1, 0), 1436);
        due("s wraps, day 399", x.marks(0, 399, 0), 1440 - 156);
        Due.way(x, 0, "k(d=399&f=0&m=1439)");
        due("d 399 is weekday 0", x.marks(0, 399, 0), 1439);
        Due.way(x, 0, "k(f=6&m=1439)");
        due("f 6", x.marks(0, 6, 0), 1439);
        due("f 6 no more", x.marks(0, 7, NONE), 0);
    }

    /** "reads a DAY from MINUTE 0 on": nothing comes over from another day that was read before. */
    private static void daysStandAlone() {
        ScruffPaper x = withPaper(new int[] {1439}, new int[] {9});
        Due.way(x, 0, "k(m>1430);k(t=1);k(b=9|g=9)");
        due("day 5", x.marks(0, 5, 0), 1431);
        due("day 6 behind it", x.marks(0, 6, 0), 1431);
        due("day 5 again", x.marks(0, 5, NONE), 1);
        Due.way(x, 0, "k(m=3&t=0)");
        due("t on day 5", x.marks(0, 5, 0), 3);
        due("t begins anew on day 6", x.marks(0, 6, 0), 3);
        Due.way(x, 1, "k(m=3&t=0)");
        due("t begins anew for another reader", x.marks(1, 6, 0), 3);
    }

    /** "PASSED OVER by READER x: MARKS of READER y that have no MINUTE in common with a MARK of x." */
    private static void passedOver() {
        ScruffPaper x = reader("k(m>99&m<110)");
        String[] ways = {"k(m>109&m<115)", "k(m>108&m<115)", "k(m>89&m<100)", "k(m>89&m<101)", "k(m=104)", "k(m>50&m<300)", "k(m=100)", "k(m=109)"};
        int[] passed = {1, 0, 1, 0, 0, 0, 0, 0};
        for (int i = 0; i < ways.length; i++) {
            Due.way(x, 1, ways[i]);
            due("passed over: " + ways[i], x.passed(0, 1, 0, 0, 0), passed[i]);
            due("the other way: " + ways[i], x.passed(1, 0, 0, 0, 0), passed[i]);
        }
        Due.way(x, 1, "k(m=0);k(m=1439)");
        due("both ends of the day", x.passed(0, 1, 0, 0, 0), 2);
        due("its first minute", x.passed(0, 1, 0, 0, 2), 0);
        Due.way(x, 0, "k(m<9)");
        due("one of both", x.passed(0, 1, 0, 0, 0), 1);
        due("the other's first minute", x.passed(0, 1, 0, 0, 2), 1439);
        due("by itself", x.passed(1, 1, 0, 0, 0), 0);
        due("by one without a way: all", x.passed(2, 1, 0, 0, 0), 2);
        due("of one without a way: none", x.passed(1, 2, 0, 0, 0), 0);
        due("both without", x.passed(2, 3, 0, 0, 1), NONE);
    }

    /** "on DAYS from one to another (30 at most)". */
    private static void passedDays() {
        ScruffPaper x = reader("k(1=2)");
        Due.way(x, 1, "k(m=3)");
        due("one day", x.passed(0, 1, 7, 7, 0), 1);
        due("29 days", x.passed(0, 1, 0, 28, 0), 29);
        due("30 days", x.passed(0, 1, 0, 29, 0), 30);
        due("the last 30 days", x.passed(0, 1, 370, 399, 0), 30);
        Bounds.refused("31 days", NONE, y -> y.passed(0, 1, 0, 30, 0));
        Bounds.refused("the last 31 days", NONE, y -> y.passed(0, 1, 369, 399, 1));
        Bounds.refused("all days", NONE, y -> y.passed(0, 1, 0, 399, 0));
        Bounds.refused("a day back", NONE, y -> y.passed(0, 1, 1, 0, 0));
        Bounds.refused("far back", NONE, y -> y.passed(0, 1, 399, 0, 0));
    }

    /** "what 0 how many, 1 the DAY of the first, 2 its first MINUTE (NONE: none); NONE: no such ones." */
    private static void passedWhat() {
        ScruffPaper x = reader("k(1=2)");
        Due.way(x, 1, "k(d=12&m>4&m<9);k(d=12&m=20);k(d=14&m=0)");
        due("how many", x.passed(0, 1, 0, 29, 0), 3);
        due("the day of the first", x.passed(0, 1, 0, 29, 1), 12);
        due("its first minute", x.passed(0, 1, 0, 29, 2), 5);
        due("up to the day before it", x.passed(0, 1, 0, 11, 1), NONE);
        due("up to that day", x.passed(0, 1, 0, 12, 1), 12);
        due("from that day on", x.passed(0, 1, 12, 20, 1), 12);
        due("from the day behind it", x.passed(0, 1, 13, 20, 1), 14);
        due("its first minute is 0", x.passed(0, 1, 13, 20, 2), 0);
        due("none: how many", x.passed(0, 1, 15, 20, 0), 0);
        due("none: which day", x.passed(0, 1, 15, 20, 1), NONE);
        due("none: which minute", x.passed(0, 1, 15, 20, 2), NONE);
        Bounds.refused("passed what -1", NONE, y -> y.passed(1, 0, 2, 4, -1));
        Bounds.refused("passed what 3", NONE, y -> y.passed(1, 0, 2, 4, 3));
        for (int far : Bounds.FAR) {
            Bounds.refused("passed what " + far, NONE, y -> y.passed(1, 0, 2, 4, far));
        }
    }

    private static void passedByNoReader() {
        int[] none = {-1, 4, Integer.MIN_VALUE, Integer.MAX_VALUE};
        for (int k : none) {
            Bounds.refused("passed by reader " + k, NONE, y -> y.passed(k, 0, 2, 4, 0));
            Bounds.refused("passed, of reader " + k, NONE, y -> y.passed(0, k, 2, 4, 0));
        }
        due("readers 3 and 0", Bounds.full().passed(3, 0, 6, 6, 0), 0);
        due("readers 0 and 3", Bounds.full().passed(0, 3, 6, 6, 0), 16);
    }

    private static void feed(ScruffPaper x, int... numbers) {
        for (int i = 0; i < numbers.length; i += 5) {
            int[] five = java.util.Arrays.copyOfRange(numbers, i, i + 5);
            x.feed(five[0], five[1], five[2], five[3], five[4]);
        }
    }

    /** "all: right", "NONE: right". */
    private static void checkIsRight() {
        due("16 marks, all right", Bounds.full().check(3, 6, 16), NONE);
        due("no marks, no numbers", Bounds.bare().check(0, 0, 0), NONE);
        due("no way, no numbers, a tape", Bounds.some().check(3, 3, 0), NONE);
        ScruffPaper x = withPaper(new int[] {5}, new int[] {1000});
        Due.way(x, 0, "k(m<9)");
        feed(x, 0, 8, 1000, 77, 78);
        due("one mark, what stands behind does not count", x.check(0, 0, 1), NONE);
    }

    /** "else the place of the first number that is not so". */
    private static void checkFirstThatIsNotSo() {
        for (int wrong = 0; wrong < 6; wrong++) {
            for (int off = -1; off <= 1; off += 2) {
                ScruffPaper x = withPaper(new int[] {5, 20}, new int[] {7, 9});
                Due.way(x, 0, "k(m>3&m<8);k(m=20)");
                int[] numbers = {4, 7, 7, 20, 20, 9, 0, 0, 0, 0};
                numbers[wrong] += off;
                feed(x, numbers);
                due("number " + wrong + " is off by " + off, x.check(0, 0, 2), wrong);
            }
        }
        ScruffPaper x = withPaper(new int[] {5, 20}, new int[] {7, 9});
        Due.way(x, 0, "k(m>3&m<8);k(m=20)");
        feed(x, 4, 6, 8, 21, 21, 8, 0, 0, 0, 0);
        due("of several the first", x.check(0, 0, 2), 1);
        for (int bit = 0; bit < 32; bit++) {
            feed(x, 4, 7, 7, 20 ^ 1 << bit, 20, 9, 0, 0, 0, 0);
            due("bit " + bit + " of number 3", x.check(0, 0, 2), 3);
        }
    }

    /** "(3 n: some are lacking)". */
    private static void checkLacking() {
        ScruffPaper x = withPaper(new int[] {5, 20}, new int[] {7, 9});
        Due.way(x, 0, "k(m>3&m<8);k(m=20);k(m=1439)");
        due("none of three told", x.check(0, 0, 0), 0);
        feed(x, 4, 7, 7, 20, 20);
        due("one of three told", x.check(0, 0, 1), 3);
        feed(x, 4, 7, 7, 20, 20, 9, 1439, 1439, 0, 0);
        due("two of three told", x.check(0, 0, 2), 6);
        feed(x, 4, 7, 7, 20, 20, 9, 1439, 1439, 0, 0);
        due("three of three told", x.check(0, 0, 3), NONE);
        feed(x, 4, 7, 8, 20, 20);
        due("one of three told wrongly", x.check(0, 0, 1), 2);
    }

    /** More threes than there are marks: the first number behind them is not so. */
    private static void checkTooMany() {
        ScruffPaper x = reader("k(m=3)");
        feed(x, 3, 3, 0, 0, 0, 0, 0, 0, 0, 0);
        due("one too many", x.check(0, 0, 2), 3);
        feed(x, 3, 3, 0, -1, -1, -1, 0, 0, 0, 0);
        due("one too many, of NONE", x.check(0, 0, 2), 3);
        for (int marks = 0; marks <= 4; marks++) {
            Due.way(x, 0, "k(m%2=0&m<" + 2 * marks + ")");
            feed(x, 0, 0, 0, 2, 2, 0, 4, 4, 0, 6, 6, 0, 8, 8, 0);
            due("five told of " + marks, x.check(0, 0, 5), 3 * marks);
        }
        feed(x, 0, 0, 0, 0, 0);
        due("one where there is none", x.check(1, 0, 1), 0);
        feed(x, -1, -1, -1, 0, 0);
        due("one of NONE where there is none", x.check(1, 0, 1), 0);
    }

    /** "by the first 3 n numbers of the tape (four bytes each; empty then) .. -2: .. it has not so many (the tape stays)". */
    private static void checkTape() {
        ScruffPaper x = reader("k(1=2)");
        due("0 of an empty tape", x.check(0, 0, 0), NONE);
        due("1 of an empty tape", x.check(0, 0, 1), NOT_SO_MANY);
        for (int feeds = 1; feeds <= 10; feeds++) {
            int most = 20 * feeds / 12;
            for (int i = 0; i < feeds; i++) {
                feed(x, 1, 1, 1, 1, 1);
            }
            due(feeds + " feeds, one too many", x.check(0, 0, most + 1), NOT_SO_MANY);
            due(feeds + " feeds, the tape stays", x.count(5), 20 * feeds);
            due(feeds + " feeds, as many as go", x.check(0, 0, most), 0);
            due(feeds + " feeds, empty then", x.count(5), 0);
        }
        feed(x, 1, 1, 1, 1, 1);
        due("n 0", x.check(0, 0, 0), NONE);
        due("n 0, empty then", x.count(5), 0);
        Bounds.refused("n -1", NOT_SO_MANY, y -> y.check(3, 6, -1));
        Bounds.refused("n 17", NOT_SO_MANY, y -> y.check(3, 6, 17));
        Bounds.refused("n 1 of an empty tape", NOT_SO_MANY, Bounds::bare, y -> y.check(0, 0, 1));
        Bounds.refused("n 4 of 40 bytes", NOT_SO_MANY, Bounds::some, y -> y.check(0, 0, 4));
        due("n 3 of 40 bytes", Bounds.some().check(3, 3, 3), 0);
        int[] wrapping = {Integer.MAX_VALUE / 3 + 1, Integer.MAX_VALUE / 12 + 1, 1 << 30, 1 << 31, 357913942, 1431655766};
        for (int n : wrapping) {
            Bounds.refused("n " + n, NOT_SO_MANY, y -> y.check(3, 6, n));
        }
        for (int far : Bounds.FAR) {
            Bounds.refused("n " + far, NOT_SO_MANY, y -> y.check(3, 6, far));
        }
    }

    private static void checkOfNoReader() {
        Bounds.refused("check of reader -1", NOT_SO_MANY, y -> y.check(-1, 6, 0));
        Bounds.refused("check of reader 4", NOT_SO_MANY, y -> y.check(4, 6, 0));
        for (int far : Bounds.FAR) {
            Bounds.refused("check of reader " + far, NOT_SO_MANY, y -> y.check(far, 6, 0));
        }
    }
}
