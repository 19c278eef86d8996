import java.math.BigInteger;

/** Boundary cases of the pen and of how many more there are: promises 28 to 31, sentence by sentence. */
public final class LotBoundsTest {
    private static final int NONE = ScruffPaper.NONE;
    private static final int NOTHING = -2;

    public static void main(String[] args) {
        nightsOfThePen();
        inHowManyOfTen();
        howManyNights();
        howFarApart();
        soManyDoNotGo();
        penWhat();
        greatestOdds();
        leastRow();
        leastRowOnceSure();
        oddsArguments();
        oddsThereAre();
        oddsWithoutCommonDivisor();
        oddsWhat();
        moreArguments();
        moreThousandths();
        moreSpan();
        moreWhat();
        Due.end();
    }

    private static void due(String what, long got, long want) {
        Due.same(what, got, want);
    }

    /** Nights of the pen: night, in how many of ten, and so on. */
    private static ScruffPaper there(int... nightsAndTens) {
        ScruffPaper x = new ScruffPaper();
        for (int i = 0; i < nightsAndTens.length; i += 2) {
            Due.same("night " + nightsAndTens[i], x.there(nightsAndTens[i], nightsAndTens[i + 1]), true);
        }
        return x;
    }

    private static void penIs(String what, ScruffPaper x, int apart, int unseen, int... nights) {
        for (int i = 0; i < nights.length; i++) {
            due(what + ", place " + i, x.pen(nights.length, apart, i), nights[i]);
        }
        due(what + ", not seen", x.pen(nights.length, apart, 6), unseen);
    }

    /** "of nights 0 to 39 told .."; "true; false: no such ones." */
    private static void nightsOfThePen() {
        penIs("night 0", there(0, 5), 1, 5, 0);
        penIs("night 39", there(39, 5), 1, 5, 39);
        Bounds.refused("night -1", 0, x -> x.there(-1, 5) ? 1 : 0);
        Bounds.refused("night 40", 0, x -> x.there(40, 5) ? 1 : 0);
        for (int far : Bounds.FAR) {
            Bounds.refused("night " + far, 0, x -> x.there(far, 5) ? 1 : 0);
        }
    }

    /** "in how many of ten it is there (0 to 10; 0 at first)". */
    private static void inHowManyOfTen() {
        penIs("0 at first", Bounds.bare(), 1, 10, 0);
        penIs("0", there(7, 0), 1, 10, 0);
        penIs("1", there(7, 1), 1, 9, 7);
        penIs("10", there(7, 10), 1, 0, 7);
        penIs("told anew", there(7, 10, 7, 0), 1, 10, 0);
        penIs("told anew, more", there(7, 3, 7, 4), 1, 6, 7);
        Bounds.refused("-1 of ten", 0, x -> x.there(0, -1) ? 1 : 0);
        Bounds.refused("11 of ten", 0, x -> x.there(0, 11) ? 1 : 0);
        for (int far : Bounds.FAR) {
            Bounds.refused(far + " of ten", 0, x -> x.there(0, far) ? 1 : 0);
        }
    }

    /** "k nights (1 to 6)". */
    private static void howManyNights() {
        penIs("one", Bounds.bare(), 1, 10, 0);
        penIs("six", Bounds.bare(), 1, 1000000, 0, 1, 2, 3, 4, 5);
        Bounds.refused("none", NONE, x -> x.pen(0, 1, 6));
        Bounds.refused("none, place 0", NONE, x -> x.pen(0, 1, 0));
        Bounds.refused("seven", NONE, x -> x.pen(7, 1, 6));
        Bounds.refused("seven, place 0", NONE, x -> x.pen(7, 1, 0));
        for (int far : Bounds.FAR) {
            Bounds.refused("so many: " + far, NONE, x -> x.pen(far, 1, 6));
        }
    }

    /** "each at least so many (1 to 10) behind the one before". */
    private static void howFarApart() {
        penIs("1 apart", there(20, 5, 21, 5), 1, 25, 20, 21);
        penIs("2 apart", there(20, 5, 21, 5), 2, 50, 0, 20);
        penIs("10 apart", there(20, 5, 30, 5), 10, 25, 20, 30);
        penIs("9 are too few", there(21, 5, 30, 5), 10, 50, 0, 21);
        penIs("11 are more than 10", there(20, 5, 31, 5), 10, 25, 20, 31);
        penIs("the last night, though the one before is like it", there(29, 9, 38, 5, 39, 5), 10, 5, 29, 39);
        Bounds.refused("0 apart", NONE, x -> x.pen(2, 0, 6));
        Bounds.refused("-1 apart", NONE, x -> x.pen(2, -1, 6));
        Bounds.refused("11 apart", NONE, x -> x.pen(2, 11, 6));
        Bounds.refused("one night, 11 apart", NONE, x -> x.pen(1, 11, 0));
        Bounds.refused("one night, 0 apart", NONE, x -> x.pen(1, 0, 0));
        for (int far : Bounds.FAR) {
            Bounds.refused("so far apart: " + far, NONE, x -> x.pen(2, far, 6));
        }
    }

    /** "NONE: .. so many do not go." */
    private static void soManyDoNotGo() {
        for (int k = 1; k <= 6; k++) {
            for (int apart = 1; apart <= 10; apart++) {
                boolean goes = (k - 1) * apart <= 39;
                int last = (k - 1) * apart;
                due(k + " nights, " + apart + " apart", Bounds.bare().pen(k, apart, k - 1), goes ? last : NONE);
            }
        }
        penIs("the last that go", there(39, 9), 9, 10000, 0, 9, 18, 27, 39);
        penIs("four by 10", there(39, 9), 10, 1000, 0, 10, 20, 39);
        penIs("six by 7", there(39, 9), 7, 100000, 0, 7, 14, 21, 28, 39);
        Bounds.refused("six by 8", NONE, x -> x.pen(6, 8, 6));
        Bounds.refused("five by 10", NONE, x -> x.pen(5, 10, 6));
        Bounds.refused("six by 10, place 0", NONE, x -> x.pen(6, 10, 0));
    }

    /** "what 0 to k less 1 the night at that place, 6 in how many of 10 to the k it is not seen; NONE: no such ones". */
    private static void penWhat() {
        for (int k = 1; k <= 6; k++) {
            int many = k;
            due("the last place of " + k, Bounds.bare().pen(k, 1, k - 1), k - 1);
            if (k < 6) {
                Bounds.refused("a place too many of " + k, NONE, x -> x.pen(many, 1, many));
            }
            Bounds.refused("place -1 of " + k, NONE, x -> x.pen(many, 1, -1));
            Bounds.refused("what 7 of " + k, NONE, x -> x.pen(many, 1, 7));
        }
        Bounds.refused("what 5 of five", NONE, x -> x.pen(5, 1, 5));
        due("what 6 of one", Bounds.bare().pen(1, 1, 6), 10);
        for (int far : Bounds.FAR) {
            Bounds.refused("what " + far, NONE, x -> x.pen(6, 1, far));
        }
    }

    /** "with which the odds to see it at least once are greatest". */
    private static void greatestOdds() {
        penIs("one of all", there(3, 5, 4, 6, 5, 4), 1, 4, 4);
        penIs("two that are not the two best side by side", there(3, 5, 4, 6, 5, 5), 2, 25, 3, 5);
        penIs("the best and a poor one", there(3, 3, 4, 9, 5, 3), 2, 10, 0, 4);
        ScruffPaper ten = there(0, 1, 5, 1, 10, 2, 15, 3, 20, 4, 25, 5, 30, 6, 35, 7, 36, 8, 39, 9);
        penIs("the best six of ten", ten, 1, 6 * 5 * 4 * 3 * 2, 20, 25, 30, 35, 36, 39);
        penIs("six of ten, 2 apart", ten, 2, 7 * 6 * 5 * 4 * 2, 15, 20, 25, 30, 36, 39);
        penIs("six all sure but for one of ten", there(0, 9, 7, 9, 14, 9, 21, 9, 28, 9, 35, 9), 7, 1, 0, 7, 14, 21, 28, 35);
    }

    /** "of like ones the least row". */
    private static void leastRow() {
        penIs("of like nights the first", there(9, 5, 20, 5, 30, 5), 1, 5, 9);
        penIs("of like nights the first two", there(9, 5, 20, 5, 30, 5), 1, 25, 9, 20);
        penIs("the first night first", there(9, 5, 20, 5), 1, 250, 0, 9, 20);
        penIs("least at the first place, then at the second", there(20, 5), 3, 500, 0, 3, 20);
        penIs("behind the best", there(0, 5), 3, 500, 0, 3, 6);
        penIs("like odds by other nights", there(10, 2, 11, 6, 12, 2, 20, 5), 1, 20, 11, 20);
        penIs("8 times 4 is 4 times 8", there(5, 2, 7, 6, 9, 2), 1, 32, 5, 7);
    }

    private static void leastRowOnceSure() {
        penIs("sure at the end", there(39, 10), 1, 0, 0, 39);
        penIs("sure at the beginning", there(0, 10, 20, 9), 1, 0, 0, 1);
        penIs("sure in the midst, 5 apart", there(7, 10), 5, 0, 0, 7, 12);
        penIs("two that are sure", there(7, 10, 20, 10), 1, 0, 0, 7);
        penIs("the later one lets the first be less", there(3, 10, 30, 10), 10, 0, 0, 30);
        penIs("six, one of them sure", there(20, 10), 1, 0, 0, 1, 2, 3, 4, 20);
    }

    private static long[] fraction(int a, int b, int c, int n) {
        BigInteger above = ways(a, c).multiply(ways(n - a, b - c));
        BigInteger below = ways(n, b);
        BigInteger common = above.gcd(below);
        return new long[] {above.divide(common).longValueExact(), below.divide(common).longValueExact()};
    }

    private static BigInteger ways(int n, int k) {
        BigInteger ways = BigInteger.ONE;
        for (int i = 0; i < k; i++) {
            ways = ways.multiply(BigInteger.valueOf(n - i)).divide(BigInteger.valueOf(i + 1));
        }
        return ways;
    }

    /** "a were seen by the first, b by the second (0 to 20 each), c by both"; "(c above a or b ..)". */
    private static void oddsArguments() {
        due("none at all", Bounds.bare().odds(0, 0, 0, 0, 0), 1);
        due("none seen of 40", Bounds.bare().odds(0, 0, 0, 40, 1), 1);
        due("20 and none", Bounds.bare().odds(20, 0, 0, 20, 0), 1);
        due("none and 20", Bounds.bare().odds(0, 20, 0, 20, 1), 1);
        due("all by both", Bounds.bare().odds(20, 20, 20, 20, 0), 1);
        int[] none = {-1, 21, Integer.MIN_VALUE, Integer.MAX_VALUE};
        for (int a : none) {
            Bounds.refused("a " + a, NONE, x -> x.odds(a, 5, 0, 40, 0));
            Bounds.refused("b " + a, NONE, x -> x.odds(5, a, 0, 40, 0));
            Bounds.refused("c " + a, NONE, x -> x.odds(20, 20, a, 40, 0));
            Bounds.refused("more, a " + a, NONE, x -> x.more(a, 5, 0, 1, 0));
            Bounds.refused("more, b " + a, NONE, x -> x.more(5, a, 0, 1, 0));
            Bounds.refused("more, c " + a, NONE, x -> x.more(20, 20, a, 1, 0));
        }
        due("c is a", Bounds.bare().odds(3, 5, 3, 5, 0), 1);
        due("c is b", Bounds.bare().odds(5, 3, 3, 5, 0), 1);
        Bounds.refused("c above a", NONE, x -> x.odds(3, 5, 4, 40, 0));
        Bounds.refused("c above b", NONE, x -> x.odds(5, 3, 4, 40, 0));
        Bounds.refused("c above none", NONE, x -> x.odds(0, 0, 1, 40, 0));
    }

    /** "(.. N below a, b, or a and b less c, or above 40)". */
    private static void oddsThereAre() {
        for (int a = 0; a <= 20; a += 4) {
            for (int b = 0; b <= 20; b += 5) {
                for (int c = 0; c <= Math.min(a, b); c += 2) {
                    ScruffPaper x = new ScruffPaper();
                    int least = a + b - c;
                    String look = "a " + a + ", b " + b + ", c " + c;
                    due(look + ", one too few", x.odds(a, b, c, least - 1, 0), NONE);
                    due(look + ", just enough, above", x.odds(a, b, c, least, 0), fraction(a, b, c, least)[0]);
                    due(look + ", just enough, below", x.odds(a, b, c, least, 1), fraction(a, b, c, least)[1]);
                    due(look + ", of 40, above", x.odds(a, b, c, 40, 0), fraction(a, b, c, 40)[0]);
                    due(look + ", of 40, below", x.odds(a, b, c, 40, 1), fraction(a, b, c, 40)[1]);
                    due(look + ", of 41", x.odds(a, b, c, 41, 0), NONE);
                }
            }
        }
        Bounds.refused("N 41", NONE, x -> x.odds(5, 4, 2, 41, 0));
        Bounds.refused("N below a", NONE, x -> x.odds(5, 2, 2, 4, 0));
        Bounds.refused("N below b", NONE, x -> x.odds(2, 5, 2, 4, 0));
        Bounds.refused("N below a and b less c", NONE, x -> x.odds(5, 5, 2, 7, 0));
        Bounds.refused("N -1", NONE, x -> x.odds(0, 0, 0, -1, 0));
        for (int far : Bounds.FAR) {
            Bounds.refused("N " + far, NONE, x -> x.odds(5, 4, 2, far, 0));
        }
    }

    /** "0 above, 1 below the line, without a common divisor". */
    private static void oddsWithoutCommonDivisor() {
        ScruffPaper x = new ScruffPaper();
        due("7 of 15, not 21 of 45", x.odds(3, 2, 1, 10, 0), 7);
        due("15 below", x.odds(3, 2, 1, 10, 1), 15);
        due("the least there are, above", x.odds(20, 20, 0, 40, 0), 1);
        due("the least there are, below", x.odds(20, 20, 0, 40, 1), 137846528820L);
        due("beyond an int, above", x.odds(20, 19, 9, 40, 1), fraction(20, 19, 9, 40)[1]);
        due("sure, above", x.odds(7, 4, 4, 7, 0), 1);
        due("sure, below", x.odds(7, 4, 4, 7, 1), 1);
    }

    private static void oddsWhat() {
        int[] none = {-1, 2, Integer.MIN_VALUE, Integer.MAX_VALUE};
        for (int what : none) {
            Bounds.refused("odds what " + what, NONE, x -> x.odds(5, 4, 2, 10, what));
        }
    }

    private static void moreArguments() {
        due("none seen", Bounds.bare().more(0, 0, 0, 1, 0), 0);
        due("20 by both", Bounds.bare().more(20, 20, 20, 1000, 0), 20);
        due("20 by both, the greatest", Bounds.bare().more(20, 20, 20, 1000, 1), 20);
        due("20 each, none by both", Bounds.bare().more(20, 20, 0, 1, 0), NOTHING);
        due("c is a", Bounds.bare().more(3, 5, 3, 1000, 1), 5);
        Bounds.refused("more, c above a", NONE, x -> x.more(3, 5, 4, 1, 0));
        Bounds.refused("more, c above b", NONE, x -> x.more(5, 3, 4, 1, 0));
    }

    /** "by so many thousandths (1 to 1000)". */
    private static void moreThousandths() {
        due("1 thousandth", Bounds.bare().more(5, 5, 5, 1, 0), 5);
        due("1000 thousandths", Bounds.bare().more(5, 5, 5, 1000, 1), 5);
        due("1000 thousandths, none", Bounds.bare().more(5, 5, 4, 1000, 1), NOTHING);
        int[] none = {0, -1, 1001, Integer.MIN_VALUE, Integer.MAX_VALUE};
        for (int thousandths : none) {
            Bounds.refused("thousandths " + thousandths, NONE, x -> x.more(5, 4, 2, thousandths, 0));
        }
    }

    /** "SPAN: those N (to 40) by which ODDS are not below so many thousandths"; "-2: none". */
    private static void moreSpan() {
        // Of three and two with one by both: 1/2 at 4, 3/5 at 5 and 6, 4/7 at 7, .. 7/15 at 10.
        ScruffPaper x = new ScruffPaper();
        due("just 500, the least", x.more(3, 2, 1, 500, 0), 4);
        due("501, the least", x.more(3, 2, 1, 501, 0), 5);
        due("just 600, the least", x.more(3, 2, 1, 600, 0), 5);
        due("just 600, the greatest", x.more(3, 2, 1, 600, 1), 6);
        due("601, none", x.more(3, 2, 1, 601, 0), NOTHING);
        due("601, none, the greatest", x.more(3, 2, 1, 601, 1), NOTHING);
        due("466, the greatest", x.more(3, 2, 1, 466, 1), 10);
        due("467, the greatest", x.more(3, 2, 1, 467, 1), 9);
        due("to 40", x.more(3, 2, 1, 1, 1), 40);
        due("none seen: all are alike", x.more(0, 0, 0, 1000, 1), 40);
        int[][] looks = {{20, 20, 10}, {20, 1, 1}, {1, 20, 0}, {12, 13, 5}, {20, 20, 1}};
        for (int[] look : looks) {
            for (int thousandths = 1; thousandths <= 1000; thousandths += 37) {
                spanIs(x, look[0], look[1], look[2], thousandths);
                x = new ScruffPaper();
            }
        }
    }

    private static void spanIs(ScruffPaper x, int a, int b, int c, int thousandths) {
        int least = NOTHING;
        int greatest = NOTHING;
        for (int n = a + b - c; n <= 40; n++) {
            long[] odds = fraction(a, b, c, n);
            BigInteger left = BigInteger.valueOf(odds[0]).multiply(BigInteger.valueOf(1000));
            if (left.compareTo(BigInteger.valueOf(odds[1]).multiply(BigInteger.valueOf(thousandths))) >= 0) {
                least = least == NOTHING ? n : least;
                greatest = n;
            }
        }
        String what = a + ", " + b + ", " + c + " by " + thousandths;
        due("least of " + what, x.more(a, b, c, thousandths, 0), least);
        due("greatest of " + what, x.more(a, b, c, thousandths, 1), greatest);
    }

    private static void moreWhat() {
        int[] none = {-1, 2, Integer.MIN_VALUE, Integer.MAX_VALUE};
        for (int what : none) {
            Bounds.refused("more what " + what, NONE, x -> x.more(5, 4, 2, 1, what));
        }
    }
}
