/** Boundary cases of nights and stories (==== 5) and of promises 23 to 27, sentence by sentence. */
public final class NightBoundsTest {
    private static final int NONE = ScruffPaper.NONE;
    private static final int NOTHING = -2;
    private static final int UNSAID = -1000000;

    public static void main(String[] args) {
        thirtyNights();
        shifts();
        saysOfNoStory();
        saysOfNoNight();
        saysByDayAndNumber();
        errors();
        fallsIfFarther();
        fallsAtTheFirst();
        fallsFarAway();
        fallsOfNoStory();
        toldFirstNight();
        toldNone();
        toldWhat();
        years();
        boundWithoutNights();
        boundGreatestSize();
        boundNotFartherThanError();
        boundOfSomeBeginning();
        boundNone();
        boundRoundedToNought();
        wave();
        Due.end();
    }

    private static void due(String what, long got, long want) {
        Due.same(what, got, want);
    }

    private static ScruffPaper nights(int... daysAndShifts) {
        ScruffPaper x = new ScruffPaper();
        for (int i = 0; i < daysAndShifts.length; i += 2) {
            due("night " + i / 2, x.night(daysAndShifts[i], daysAndShifts[i + 1]), i / 2);
        }
        return x;
    }

    /** "NIGHTS 0 to 29"; "NONE: .. 30 are there." */
    private static void thirtyNights() {
        ScruffPaper x = new ScruffPaper();
        for (int i = 0; i < 30; i++) {
            due("night " + i, x.night(399 - i, i), i);
        }
        due("a 31st", x.night(0, 0), NONE);
        due("30 are there", x.count(3), 30);
        Due.story(x, 0, "d*100+n");
        due("night 29", x.says(0, 29), 37029);
        Bounds.refused("a 31st night", NONE, Bounds::full, y -> y.night(0, 0));
        due("the same day twice", nights(5, 1, 5, 2).count(3), 2);
        due("a day before", nights(5, 1, 4, 2).count(3), 2);
    }

    /** "a shift (-100000 to 100000) that was found". */
    private static void shifts() {
        ScruffPaper x = nights(0, -100000, 0, 100000);
        Due.story(x, 0, "n*2*10000*10-99999-1");
        due("they are as told", x.falls(0, 0), NOTHING);
        Bounds.refused("shift -100001", NONE, y -> y.night(0, -100001));
        Bounds.refused("shift 100001", NONE, y -> y.night(0, 100001));
        for (int far : Bounds.FAR) {
            Bounds.refused("shift " + far, NONE, y -> y.night(0, far));
        }
    }

    /** "-1000000: no such ones, it is not told." */
    private static void saysOfNoStory() {
        Bounds.refused("story 1 is not told", UNSAID, Bounds::some, x -> x.says(1, 0));
        Bounds.refused("story -1", UNSAID, x -> x.says(-1, 0));
        Bounds.refused("story 6", UNSAID, x -> x.says(6, 0));
        for (int far : Bounds.FAR) {
            Bounds.refused("story " + far, UNSAID, x -> x.says(far, 0));
        }
        due("story 0", Bounds.full().says(0, 1), 10);
        due("story 5", Bounds.full().says(5, 1), 5);
    }

    private static void saysOfNoNight() {
        Bounds.refused("night 4 of four", UNSAID, Bounds::some, x -> x.says(0, 4));
        due("night 3 of four", Bounds.some().says(0, 3), 77);
        Bounds.refused("night 0 of none", UNSAID, Bounds::bare, x -> x.says(0, 0));
        ScruffPaper x = new ScruffPaper();
        Due.story(x, 0, "5");
        due("a story, night 0 of none", x.says(0, 0), UNSAID);
        Bounds.refused("night -1", UNSAID, y -> y.says(0, -1));
        Bounds.refused("night 30", UNSAID, y -> y.says(0, 30));
        for (int far : Bounds.FAR) {
            Bounds.refused("night " + far, UNSAID, y -> y.says(0, far));
        }
        due("night 29 of thirty", Bounds.full().says(1, 29), 261);
    }

    /** "letters d, n the NIGHT's number". */
    private static void saysByDayAndNumber() {
        ScruffPaper x = nights(399, 0, 0, 0);
        Due.story(x, 0, "d");
        due("d 399", x.says(0, 0), 399);
        due("d 0", x.says(0, 1), 0);
        Due.story(x, 0, "n");
        due("n 0", x.says(0, 0), 0);
        due("n 1", x.says(0, 1), 1);
        Due.story(x, 0, "0-99999*10-10");
        due("it may say what stands for none", x.says(0, 0), -1000000);
        Due.story(x, 0, "8/n");
        due("refused at night 0", x.says(0, 0), 0);
        due("not at night 1", x.says(0, 1), 8);
    }

    /** "an error (0 to 100000)": of every call that takes one. */
    private static void errors() {
        ScruffPaper x = nights(0, 100000, 1, -100000);
        Due.story(x, 0, "0");
        due("falls, error 0", x.falls(0, 0), 0);
        due("falls, error 99999", x.falls(0, 99999), 0);
        due("falls, error 100000", x.falls(0, 100000), NOTHING);
        due("told, error 99999", x.told(99999, 0), NONE);
        due("told, error 100000", x.told(100000, 0), 0);
        due("bound, error 0", x.bound(4, 0), NOTHING);
        due("bound, error 100000", x.bound(4, 100000), 2000);
        int[] none = {-1, 100001, Integer.MIN_VALUE, Integer.MAX_VALUE};
        for (int error : none) {
            Bounds.refused("falls, error " + error, NONE, y -> y.falls(0, error));
            Bounds.refused("told, error " + error, NONE, y -> y.told(error, 0));
            Bounds.refused("told's story, error " + error, NONE, y -> y.told(error, 1));
            Bounds.refused("bound, error " + error, NONE, y -> y.bound(40, error));
        }
    }

    /** "at which what it says is farther than an error from what was found". */
    private static void fallsIfFarther() {
        ScruffPaper x = nights(0, 100);
        Due.story(x, 0, "110");
        due("10 too much, error 10", x.falls(0, 10), NOTHING);
        due("10 too much, error 9", x.falls(0, 9), 0);
        Due.story(x, 0, "90");
        due("10 too little, error 10", x.falls(0, 10), NOTHING);
        due("10 too little, error 9", x.falls(0, 9), 0);
        Due.story(x, 0, "100");
        due("just so, error 0", x.falls(0, 0), NOTHING);
        Due.story(x, 0, "0-100");
        due("the other side, error 199", x.falls(0, 199), 0);
        due("the other side, error 200", x.falls(0, 200), NOTHING);
    }

    /** "a STORY FALLS at the first NIGHT"; "-2: it stands". */
    private static void fallsAtTheFirst() {
        ScruffPaper x = new ScruffPaper();
        Due.story(x, 0, "n");
        due("it stands without nights", x.falls(0, 0), NOTHING);
        for (int i = 0; i < 30; i++) {
            x.night(0, i < 29 ? i : 99);
        }
        due("at the last night", x.falls(0, 0), 29);
        due("not there with an error of 70", x.falls(0, 70), NOTHING);
        due("there with an error of 69", x.falls(0, 69), 29);
        Due.story(x, 0, "n-7");
        due("at night 0", x.falls(0, 6), 0);
        due("of several the first", x.falls(0, 0), 0);
    }

    private static void fallsFarAway() {
        ScruffPaper x = nights(0, 100000, 0, -100000);
        Due.story(x, 0, "32768*32768*2");
        due("the least int", x.falls(0, 100000), 0);
        Due.story(x, 0, "32768*32768*2-1");
        due("the greatest int", x.falls(0, 100000), 0);
        ScruffPaper y = nights(0, -100000);
        Due.story(y, 0, "32768*32768*2-1");
        due("the greatest int, a shift below 0", y.falls(0, 100000), 0);
        ScruffPaper z = nights(0, 1);
        Due.story(z, 0, "32768*32768*2-1+2-1");
        due("wrapped to the least int", z.says(0, 0), Integer.MIN_VALUE);
        due("it falls", z.falls(0, 100000), 0);
    }

    /** "NONE: no such ones, it is not told." */
    private static void fallsOfNoStory() {
        Bounds.refused("falls: story 1 is not told", NONE, Bounds::some, x -> x.falls(1, 0));
        Bounds.refused("falls: story 0 of none", NONE, Bounds::bare, x -> x.falls(0, 0));
        Bounds.refused("falls: story -1", NONE, x -> x.falls(-1, 0));
        Bounds.refused("falls: story 6", NONE, x -> x.falls(6, 0));
        for (int far : Bounds.FAR) {
            Bounds.refused("falls: story " + far, NONE, x -> x.falls(far, 0));
        }
        due("story 5", Bounds.full().falls(5, 0), 1);
    }

    /** "TOLD: the first NIGHT behind which one alone stands." */
    private static void toldFirstNight() {
        ScruffPaper x = nights(0, 0, 1, 1, 2, 4, 3, 9);
        Due.story(x, 0, "n*n");
        due("one alone from the first night on", x.told(0, 0), 0);
        due("that one", x.told(0, 1), 0);
        Due.story(x, 1, "n");
        due("the second falls at night 2", x.told(0, 0), 2);
        due("the first stands", x.told(0, 1), 0);
        Due.story(x, 5, "n*n+n/3");
        due("the third falls at night 3", x.told(0, 0), 3);
        Due.story(x, 5, "n*n+n/4");
        due("the third stands", x.told(0, 0), NONE);
        Due.story(x, 0, "1");
        due("the last story alone", x.told(0, 1), 5);
        due("from night 2 on", x.told(0, 0), 2);
        Due.story(x, 1, "2");
        due("both others fall at night 0", x.told(0, 0), 0);
    }

    /** "NONE: there is none (none told, or several, or none stand)". */
    private static void toldNone() {
        due("none told, no nights", Bounds.bare().told(0, 0), NONE);
        due("none told", nights(0, 0).told(0, 0), NONE);
        due("none told, which", nights(0, 0).told(0, 1), NONE);
        ScruffPaper x = new ScruffPaper();
        Due.story(x, 0, "0");
        due("one told, no nights", x.told(0, 0), NONE);
        due("one told, no nights, which", x.told(0, 1), NONE);
        x.night(0, 0);
        due("one told, a night", x.told(0, 0), 0);
        Due.story(x, 1, "0");
        due("several stand", x.told(0, 0), NONE);
        due("several stand, which", x.told(0, 1), NONE);
        x.night(0, 1);
        due("both fall at once", x.told(0, 0), NONE);
        due("both fall at once, which", x.told(0, 1), NONE);
        due("six that stand", Bounds.full().told(100000, 0), NONE);
        due("five of six that fall", Bounds.full().told(0, 0), 1);
        due("five of six that fall, which", Bounds.full().told(0, 1), 0);
    }

    private static void toldWhat() {
        Bounds.refused("told what -1", NONE, x -> x.told(0, -1));
        Bounds.refused("told what 2", NONE, x -> x.told(0, 2));
        for (int far : Bounds.FAR) {
            Bounds.refused("told what " + far, NONE, x -> x.told(0, far));
        }
    }

    /** "a YEAR of Y DAYS (4 to 400)". */
    private static void years() {
        due("year 4", nights(0, 7).bound(4, 0), 7);
        due("year 400", nights(0, 7).bound(400, 0), 799);
        Bounds.refused("year 3", NONE, x -> x.bound(3, 0));
        Bounds.refused("year 401", NONE, x -> x.bound(401, 0));
        Bounds.refused("year 0", NONE, x -> x.bound(0, 0));
        Bounds.refused("year -1", NONE, x -> x.bound(-1, 0));
        for (int far : Bounds.FAR) {
            Bounds.refused("year " + far, NONE, x -> x.bound(far, 0));
        }
    }

    private static void boundWithoutNights() {
        due("no nights, year 4", Bounds.bare().bound(4, 0), 2000);
        due("no nights, year 400", Bounds.bare().bound(400, 100000), 2000);
    }

    /** "the greatest A (0 to 2000)". */
    private static void boundGreatestSize() {
        due("a shift of 2000 at a quarter", nights(0, 2000, 2, -2000).bound(4, 0), 2000);
        due("a shift of 2001 at a quarter", nights(0, 2001, 2, -2001).bound(4, 0), NOTHING);
        due("a shift of 2001, error 1", nights(0, 2001, 2, -2001).bound(4, 1), 2000);
        due("a shift of 1999", nights(0, 1999, 2, -1999).bound(4, 0), 1999);
        due("0 in all quarters", nights(0, 0, 1, 0, 2, 0, 3, 0).bound(4, 0), 0);
        due("1 in all quarters, error 0", nights(0, 1, 1, 1).bound(4, 0), NOTHING);
        due("no night tells more than 2000", nights(0, 0).bound(4, 100000), 2000);
    }

    /** "for which some f .. is not farther than an error from all that was found". */
    private static void boundNotFartherThanError() {
        ScruffPaper x = nights(0, 500, 1, 10, 2, -500, 3, -10);
        due("error 9", x.bound(4, 9), NOTHING);
        due("error 10", x.bound(4, 10), 510);
        due("error 11", x.bound(4, 11), 511);
        ScruffPaper y = nights(0, 500, 2, -520);
        due("error 9 apart", y.bound(4, 9), NOTHING);
        due("error 10 apart", y.bound(4, 10), 510);
        due("error 11 apart", y.bound(4, 11), 511);
    }

    /** "some f (0 to Y less 1)": every beginning counts. */
    private static void boundOfSomeBeginning() {
        // In a year of 4 the shift is 0, A, 0, -A on days begun 0 to 3 days before.
        due("begun 0 days ago", nights(0, 0, 1, 7, 2, 0, 3, -7).bound(4, 0), 7);
        due("begun 1 day ago", nights(0, 7, 1, 0, 2, -7, 3, 0).bound(4, 0), 7);
        due("begun 2 days ago", nights(0, 0, 1, -7, 2, 0, 3, 7).bound(4, 0), 7);
        due("begun 3 days ago", nights(0, -7, 1, 0, 2, 7, 3, 0).bound(4, 0), 7);
        due("days wrap by the year", nights(396, -7, 397, 0, 398, 7, 399, 0).bound(4, 0), 7);
        due("the greatest of several beginnings", nights(0, 7).bound(4, 0), 7);
        due("a beginning at which it tells nothing", nights(0, 0).bound(4, 0), 2000);
        due("begun 0 days ago in a year of 400", nights(0, 0, 100, 1000, 200, 0, 300, -1000).bound(400, 0), 1000);
        due("begun 399 days ago", nights(1, 0, 101, 1000, 201, 0, 301, -1000).bound(400, 0), 1000);
    }

    /** "-2: there is none". */
    private static void boundNone() {
        due("both ways at once", nights(0, 50, 0, -50).bound(4, 49), NOTHING);
        due("both ways at once, error 50", nights(0, 50, 0, -50).bound(4, 50), 2000);
        due("above 0 all the time", nights(0, 9, 1, 9, 2, 9, 3, 9).bound(4, 8), NOTHING);
        due("above 0 all the time, error 9", nights(0, 9, 1, 9, 2, 9, 3, 9).bound(4, 9), 0);
        due("two shifts on one day", nights(0, -1, 0, 0).bound(4, 0), NOTHING);
        due("two shifts on one day, above 0", nights(0, 1, 0, 0).bound(4, 0), NOTHING);
        due("two shifts on one day, error 1", nights(0, 1, 0, 0).bound(4, 1), 2000);
        due("one night asks for A 1, the other for 0", nights(0, 1, 2, 0).bound(4, 0), NOTHING);
        due("far away", nights(0, 100000).bound(400, 97999), NOTHING);
        due("just reached", nights(0, 100000).bound(400, 98000), 2000);
        due("far away below", nights(0, -100000).bound(400, 97999), NOTHING);
        due("just reached below", nights(0, -100000).bound(400, 98000), 2000);
    }

    /** "through 1000 (to 0 rounded)". */
    private static void boundRoundedToNought() {
        // In a year of 8, begun 1 day ago, W is 500 on day 0: A 1 gives 0, A 2 and 3 give 1; on day 4 it is -500.
        due("an eighth", nights(0, 1, 1, 3, 2, 1, 3, 0, 4, -1, 5, -3, 6, -1).bound(8, 0), 3);
        due("rounded to 0 from below, too", nights(0, 0, 1, 1, 2, 0, 3, 0, 4, 0, 5, -1, 6, 0, 7, 0).bound(8, 0), 1);
        // In a year of 12, begun 1 day ago, W is 333, 1000 and 667 on days 0, 2 and 3: 3 times 333 is just below 1000.
        due("the last A that is rounded to 0", nights(0, 0, 2, 3, 3, 2).bound(12, 0), 3);
        due("it is not rounded to 1", nights(0, 1, 2, 3).bound(12, 0), NOTHING);
        due("the first A that is", nights(0, 1, 2, 4, 3, 2).bound(12, 0), 4);
        due("not rounded down", nights(0, -1, 4, 1, 1, -3, 5, 3).bound(8, 0), 3);
    }

    private static int waveOf(int k, int year) {
        if (4 * k < year) {
            return 4000 * k / year;
        }
        return 4 * k < 3 * year ? 2000 - 4000 * k / year : 4000 * k / year - 4000;
    }

    /** "W(k): 4000 k / Y if 4 k is below Y; 2000 - 4000 k / Y if below 3 Y; else 4000 k / Y - 4000 (each quotient rounded down)." */
    private static void wave() {
        int[] years = {4, 5, 6, 7, 29, 30};
        for (int year : years) {
            for (int begun = 0; begun < year; begun += 3) {
                ScruffPaper x = new ScruffPaper();
                for (int day = 0; day < year; day++) {
                    // A is 1000, so that the shift is W itself.
                    x.night(day, waveOf((day + begun) % year, year));
                }
                int steepest = 0;
                for (int k = 0; k < year; k++) {
                    steepest = Math.max(steepest, Math.abs(waveOf(k, year)));
                }
                // The steepest W is the first to grow by one.
                due("a whole year of " + year + ", begun " + begun, x.bound(year, 0), 1000 + (999 + steepest) / steepest - 1);
            }
        }
        // 4000 * 6 / 7 is 3428.57: rounded down, W(6) is -572, and A 1998 the last one whose shift is rounded to -1142.
        due("each quotient rounded down", nights(0, -1142).bound(7, 0), 1998);
        due("W at a quarter of 4", waveOf(1, 4), 1000);
        due("W at three quarters of 4", waveOf(3, 4), -1000);
    }
}
