/** Boundary cases of texts (==== 2) and of promises 5 to 7, sentence by sentence. */
public final class TextBoundsTest {
    private static final int NONE = ScruffPaper.NONE;
    private static final String LETTERS = "dmsaufxhbgltn";
    private static final String DIGITS = "0123456789";

    public static void main(String[] args) {
        lawsOfSources();
        waysOfReaders();
        sixStories();
        bytesOfLawsAndWays();
        bytesOfStories();
        tapeHasNotSoMany();
        emptyThen();
        faultLeavesTheTextBefore();
        twelveClauses();
        thirteenthClause();
        fiveDigits();
        sixthDigit();
        sixOpen();
        seventhOpen();
        exclamationEndsWithItsPiece();
        theEndTooIsAFault();
        whatCanStandInALaw();
        whatCanStandInAWay();
        whatCanStandInAStory();
        firstFaultFromTheLeft();
        lettersNotItsOwn();
        thirtyTwoBits();
        dividedByZero();
        askedAsMuchAsMatters();
        fromTheLeftOn();
        compared();
        Due.end();
    }

    private static void due(String what, long got, long want) {
        Due.same(what, got, want);
    }

    private static ScruffPaper withSource() {
        ScruffPaper x = new ScruffPaper();
        x.source(false, 720, 0, 1, 127);
        return x;
    }

    private static int law(String text) {
        return Due.law(withSource(), 0, text);
    }

    private static int way(String text) {
        return Due.way(new ScruffPaper(), 0, text);
    }

    private static int story(String text) {
        return Due.story(new ScruffPaper(), 0, text);
    }

    /** Promise 5: "NONE: no such ones". */
    private static void lawsOfSources() {
        due("law of source 0", law("h1(1=1)"), 1);
        ScruffPaper x = Bounds.full();
        due("the tape of numbers is no law", x.law(9, 1), -1000);
        due("law of source 9", Due.law(x, 9, "h1(1=1);h2(1=1)"), 2);
        due("it has it", x.count(19), 2);
        Bounds.refused("law of source -1", NONE, y -> y.law(-1, 1));
        Bounds.refused("law of source 10", NONE, y -> y.law(10, 1));
        Bounds.refused("law of source 3 of three", NONE, Bounds::some, y -> y.law(3, 1));
        Bounds.refused("law of source 0 of none", NONE, Bounds::bare, y -> y.law(0, 1));
        for (int far : Bounds.FAR) {
            Bounds.refused("law of source " + far, NONE, y -> y.law(far, 1));
        }
    }

    /** "READERS 0 to 3". */
    private static void waysOfReaders() {
        for (int k = 0; k < 4; k++) {
            ScruffPaper x = new ScruffPaper();
            due("way of reader " + k, Due.way(x, k, "k(m=7);k(m=9)"), 2);
            for (int other = 0; other < 4; other++) {
                due("reader " + other + " when " + k + " has a way", x.count(20 + other), other == k ? 2 : 0);
                due("marks of reader " + other + " when " + k + " has a way", x.marks(other, 0, NONE), other == k ? 2 : 0);
            }
        }
        Bounds.refused("way of reader -1", NONE, y -> y.way(-1, 1));
        Bounds.refused("way of reader 4", NONE, y -> y.way(4, 1));
        for (int far : Bounds.FAR) {
            Bounds.refused("way of reader " + far, NONE, y -> y.way(far, 1));
        }
    }

    /** "STORIES 0 to 5". */
    private static void sixStories() {
        for (int k = 0; k < 6; k++) {
            ScruffPaper x = new ScruffPaper();
            x.night(5, 0);
            due("story " + k, Due.story(x, k, "d*d"), 1);
            for (int other = 0; other < 6; other++) {
                due("story " + other + " when " + k + " is told", x.count(30 + other), other == k ? 1 : 0);
                due("what story " + other + " says when " + k + " is told", x.says(other, 0), other == k ? 25 : -1000000);
            }
        }
        Bounds.refused("story -1", NONE, y -> y.story(-1, 1));
        Bounds.refused("story 6", NONE, y -> y.story(6, 1));
        for (int far : Bounds.FAR) {
            Bounds.refused("story " + far, NONE, y -> y.story(far, 1));
        }
    }

    /** "A TEXT: at most 120 bytes"; "by the first n bytes of the tape (1 to 120 ..)". */
    private static void bytesOfLawsAndWays() {
        String law = "h" + "1+".repeat(56) + "11(1=1)";
        due("a law's length", law.length(), 120);
        ScruffPaper x = withSource();
        due("a law of 120 bytes", Due.law(x, 0, law), 1);
        due("all of it counts", x.height(0, 0, 720), 67);
        String way = "k(" + "m+".repeat(55) + "0=71111)";
        due("a way's length", way.length(), 120);
        ScruffPaper y = new ScruffPaper();
        due("a way of 120 bytes", Due.way(y, 0, way), 1);
        due("a way of 120 bytes, no mark", y.marks(0, 0, NONE), 0);
        due("another of 120 bytes", Due.way(y, 0, "k(" + "m+".repeat(55) + "0=00055)"), 1);
        due("all of it counts too", y.marks(0, 0, 0), 1);
        due("one byte: no law", law("h"), -1001);
        due("one byte: no way", way("k"), -1001);
        Bounds.refused("law of 0 bytes", NONE, z -> z.law(0, 0));
        Bounds.refused("law of -1 bytes", NONE, z -> z.law(0, -1));
        Bounds.refused("law of 121 bytes", NONE, z -> z.law(0, 121));
        Bounds.refused("law of all 200 bytes", NONE, z -> z.law(0, 200));
        Bounds.refused("way of 0 bytes", NONE, z -> z.way(0, 0));
        Bounds.refused("way of -1 bytes", NONE, z -> z.way(0, -1));
        Bounds.refused("way of 121 bytes", NONE, z -> z.way(0, 121));
        Bounds.refused("way of all 200 bytes", NONE, z -> z.way(0, 200));
        for (int far : Bounds.FAR) {
            Bounds.refused("law of so many bytes: " + far, NONE, z -> z.law(0, far));
            Bounds.refused("way of so many bytes: " + far, NONE, z -> z.way(0, far));
        }
    }

    /** "60 bytes at most"; "by the first n bytes of the tape (1 to 60 ..)". */
    private static void bytesOfStories() {
        due("one byte", Due.worth("d"), 5);
        String longest = "12+" + "1+".repeat(28) + "d";
        due("its length", longest.length(), 60);
        due("60 bytes", Due.worth(longest), 45);
        Bounds.refused("story of 0 bytes", NONE, x -> x.story(0, 0));
        Bounds.refused("story of -1 bytes", NONE, x -> x.story(0, -1));
        Bounds.refused("story of 61 bytes", NONE, x -> x.story(0, 61));
        Bounds.refused("story of 120 bytes", NONE, x -> x.story(0, 120));
        for (int far : Bounds.FAR) {
            Bounds.refused("story of so many bytes: " + far, NONE, x -> x.story(0, far));
        }
    }

    /** "NONE: .. it has not so many (the tape stays)." */
    private static void tapeHasNotSoMany() {
        Bounds.refused("law of 1 of no bytes", NONE, Bounds::bare, x -> x.law(0, 1));
        Bounds.refused("law of 1 of no bytes, a source", NONE, () -> Bounds.some(""), x -> x.law(0, 1));
        Bounds.refused("way of 1 of no bytes", NONE, Bounds::bare, x -> x.way(0, 1));
        Bounds.refused("story of 1 of no bytes", NONE, Bounds::bare, x -> x.story(0, 1));
        Bounds.refused("law of 41 of 40 bytes", NONE, Bounds::some, x -> x.law(0, 41));
        Bounds.refused("way of 41 of 40 bytes", NONE, Bounds::some, x -> x.way(0, 41));
        Bounds.refused("story of 41 of 40 bytes", NONE, Bounds::some, x -> x.story(0, 41));
        String law = "h7" + "+0".repeat(16) + "(1=10)";
        due("law of 40 of 40 bytes", law.length(), 40);
        due("law of 40 of 40 bytes", law(law), 1);
        String way = "k(m=7" + "+0".repeat(17) + ")";
        due("way of 40 of 40 bytes", way.length(), 40);
        due("way of 40 of 40 bytes", way(way), 1);
        due("story of 40 of 40 bytes", story(Bounds.TAPE), 1);
    }

    /** "(1 to 120; empty then), in place of the one before": what stood behind the n bytes is gone, too. */
    private static void emptyThen() {
        ScruffPaper x = withSource();
        Due.put(x, "h5(1=1)h6(1=1)h7(1=1)h8(1=1)");
        due("the first 7 of 40 bytes", x.law(0, 7), 1);
        due("empty behind a law", x.count(5), 0);
        due("nothing is left to be a text", x.law(0, 7), NONE);
        due("by those bytes", x.height(0, 0, 720), 5);
        Due.put(x, "k(m=7)k(m=8)");
        due("the first 6 of 20 bytes", x.way(0, 6), 1);
        due("empty behind a way", x.count(5), 0);
        due("by those bytes", x.marks(0, 0, 0), 7);
        Due.put(x, "12345");
        due("the first 3 of 20 bytes", x.story(0, 3), 1);
        due("empty behind a story", x.count(5), 0);
        x.night(0, 0);
        due("by those bytes", x.says(0, 0), 123);
        due("a law in place", Due.law(x, 0, "h9(1=1)"), 1);
        due("of the one before", x.height(0, 0, 720), 9);
        due("a way in place", Due.way(x, 0, "k(m=1)"), 1);
        due("of the one before, first", x.marks(0, 0, 0), 1);
        due("of the one before, many", x.marks(0, 0, NONE), 1);
        due("a story in place", Due.story(x, 0, "9"), 1);
        due("of the one before", x.says(0, 0), 9);
    }

    /** "a FAULT: -1000 times its number, less its place (the TEXT before stays)". */
    private static void faultLeavesTheTextBefore() {
        Bounds.fault("law, fault 1", -1000, "q", x -> x.law(0, 1));
        Bounds.fault("law, fault 1 at the end", -1006, "h9(1=1", x -> x.law(0, 6));
        Bounds.fault("law, fault 2", -2006, "h123456(1=1)", x -> x.law(1, 12));
        Bounds.fault("law, fault 4", -4096, "h1(1=1);".repeat(12) + "h", x -> x.law(2, 97));
        Bounds.fault("law, fault 5", -5008, "h1(((((((1=1)))))))", x -> x.law(0, 19));
        Bounds.fault("way, fault 1", -1000, "h1(1=1)", x -> x.way(0, 7));
        Bounds.fault("way of one that has none, fault 1", -1002, "k(", x -> x.way(1, 2));
        Bounds.fault("way, fault 2", -2007, "k(123456=1)", x -> x.way(0, 11));
        Bounds.fault("way, fault 4", -4084, "k(1=1);".repeat(13), x -> x.way(2, 90));
        Bounds.fault("way, fault 5", -5007, "k(!!!!!!1=1)", x -> x.way(3, 12));
        Bounds.fault("story, fault 1", -1002, "d+", x -> x.story(0, 2));
        Bounds.fault("story that is not told, fault 1", -1001, "d=1", x -> x.story(1, 3));
        Bounds.fault("story, fault 2", -2005, "123456", x -> x.story(5, 6));
        Bounds.fault("story, fault 5", -5006, "[[[[[[[d]]]]]]]", x -> x.story(2, 15));
    }

    /** "CLAUSES (12 at most) with a ; (59) between two". */
    private static void twelveClauses() {
        ScruffPaper x = withSource();
        String eleven = "h5(1=2);".repeat(11);
        due("a law of 12 clauses", Due.law(x, 0, eleven + "h9(1=1)"), 12);
        due("count tells 12", x.count(10), 12);
        due("the twelfth holds", x.height(0, 0, 720), 9);
        due("a way of 12 clauses", Due.way(x, 0, "k(m=5);".repeat(11) + "k(m=9)"), 12);
        due("count tells 12", x.count(20), 12);
        due("the twelfth marks", x.marks(0, 0, 3), 9);
        due("a law of 1 clause", law("h1(1=1)"), 1);
        due("a way of 11 clauses", way("k(1=1);".repeat(10) + "k(1=1)"), 11);
        due("two clauses without ;", way("k(1=1)k(1=1)"), -1006);
        due("two ;", way("k(1=1);;k(1=1)"), -1007);
        due("a ; behind the last", way("k(1=1);"), -1007);
        due("a ; ahead of the first", way(";k(1=1)"), -1000);
    }

    /** "4 a 13th CLAUSE, at its letter (if that can stand there)". */
    private static void thirteenthClause() {
        String laws = "h1(1=1);".repeat(12);
        String ways = "k(1=1);".repeat(12);
        due("a 13th of a law", law(laws + "h1(1=1)"), -4096);
        due("a 13th of a way", way(ways + "k(1=1)"), -4084);
        due("its letter alone", way(ways + "k"), -4084);
        due("what is wrong behind the letter does not count", way(ways + "k?"), -4084);
        for (int sign = 0; sign < 256; sign++) {
            due("law, 13th " + sign, law(laws + (char) sign), sign == 'h' ? -4096 : -1096);
            due("way, 13th " + sign, way(ways + (char) sign), sign == 'k' ? -4084 : -1084);
        }
        due("the end in place of a 13th", way(ways), -1084);
        due("no ; behind the 12th", way(ways.substring(0, 83) + "k(1=1)"), -1083);
        due("a fault ahead of it comes first", way("k(1=);" + ways), -1004);
    }

    /** "a number of one to five digits". */
    private static void fiveDigits() {
        due("one digit", Due.worth("7"), 7);
        due("0", Due.worth("0+3"), 3);
        due("five digits", Due.worth("99999"), 99999);
        due("five zeros", Due.worth("00000+4"), 4);
        due("zeros ahead", Due.worth("00012"), 12);
        due("no digit", story("+1"), -1000);
    }

    /** "2 a sixth digit, at it". */
    private static void sixthDigit() {
        for (char digit = '0'; digit <= '9'; digit++) {
            due("a sixth digit " + digit, story("12345" + digit), -2005);
            due("sixth digit behind zeros " + digit, story("00000" + digit), -2005);
        }
        due("a seventh does not matter", story("1234567"), -2005);
        due("behind +", story("1+123456"), -2007);
        due("behind *", story("1*123456"), -2007);
        due("in [", story("[123456]"), -2006);
        due("in a law's E", law("h123456(1=1)"), -2006);
        due("in a C's first E", law("h1(123456=1)"), -2008);
        due("in a C's second E", law("h1(1=123456)"), -2010);
        due("behind |", way("k(1=1|123456=1)"), -2011);
        due("behind &", way("k(1=1&123456=1)"), -2011);
        due("behind !", way("k(!123456=1)"), -2008);
        due("in (", way("k((123456=1))"), -2008);
        due("in a second clause", way("k(1=1);k(123456=1)"), -2014);
        due("five digits and a letter is fault 1", story("12345d"), -1005);
    }

    /** "5 a seventh of ( [ ! that are open in one another": six go. */
    private static void sixOpen() {
        due("six (", way("k((((((1=1))))))"), 1);
        due("five ( and a !", way("k(((((!1=1)))))"), 1);
        due("five ( and a [", way("k((((([1]=1)))))"), 1);
        due("a ( and five !", way("k(!!!!!1=1)"), 1);
        due("a ( and five [", way("k([[[[[1]]]]]=[[[[[1]]]]])"), 1);
        due("of each two", way("k(!(![[1]]=1))"), 1);
        due("six [ of a story", Due.worth("[[[[[[7]]]]]]"), 7);
        due("six [ of a law's E, ahead of the (", law("h[[[[[[1]]]]]]((((((1=1))))))"), 1);
        due("side by side they do not count", way("k((1=1)&(1=1)&(1=1)&(1=1)&(1=1)&(1=1)&(1=1))"), 1);
        due("nor do [", Due.worth("[1]+[1]+[1]+[1]+[1]+[1]+[1]+[1]"), 8);
        due("nor do !", way("k(!1=2&!1=2&!1=2&!1=2&!1=2&!1=2&!1=2)"), 1);
        due("each clause anew", way("k((((((1=1))))));k((((((1=1))))))"), 2);
    }

    /** ".. at it (the ( of the CLAUSE counts; .. the E of a CLAUSE stands ahead of it)". */
    private static void seventhOpen() {
        due("a seventh (", way("k(((((((1=1)))))))"), -5007);
        due("a seventh [ behind (", way("k(((((([1]=1))))))"), -5007);
        due("a seventh ! behind (", way("k((((((!1=1))))))"), -5007);
        due("a seventh ! behind !", way("k(!!!!!!1=1)"), -5007);
        due("a seventh ( behind !", way("k(!!!!!(1=1))"), -5007);
        due("a seventh [ behind !", way("k(!!!!![1]=1)"), -5007);
        due("a seventh [ behind [", way("k([[[[[[1]]]]]]=1)"), -5007);
        due("a seventh [ on the right side", way("k(1=[[[[[[1]]]]]])"), -5009);
        due("a seventh [ of a law's E", law("h[[[[[[[1]]]]]]](1=1)"), -5007);
        due("a seventh [ of a story", story("[[[[[[[1]]]]]]]"), -5006);
        due("a seventh behind +", story("1+[[[[[[[1"), -5008);
        due("a seventh behind *", story("1*[[[[[[[1"), -5008);
        due("a seventh behind |", way("k(1=1|((((((1=1"), -5011);
        due("a seventh behind &", way("k(1=1&((((((1=1"), -5011);
        due("in a second clause", way("k(1=1);k(((((((1=1"), -5014);
        due("a seventh that can't stand there: ( behind a number", way("k((((((1("), -1008);
        due("a seventh that can't stand there: [ behind a number", way("k((((((1["), -1008);
        due("a seventh that can't stand there: ! behind =", way("k((((((1=!"), -1009);
        due("a seventh that can't stand there: ( behind =", way("k((((((1=("), -1009);
        due("at its place, not at the end", way("k((((((("), -5007);
        due("six and the end", way("k(((((("), -1007);
    }

    /** "a ! is open till its PIECE ends". */
    private static void exclamationEndsWithItsPiece() {
        due("open in its E", way("k(!!!!!1=[1])"), -5009);
        due("open in its first E", way("k(!!!!![1]=1)"), -5007);
        due("open in its (C)", way("k(!!!!(!1=1))"), -5007);
        due("open in all of its (C)", way("k(!!!!(1=1&[1]=1))"), -5011);
        due("closed behind its comparison", way("k(!!!!!1=1&!!!!!1=1)"), 1);
        due("closed behind its comparison, |", way("k(!!!!!1=1|(((((1=1))))))"), 1);
        due("closed behind its (C)", way("k(!!!!(1=1)&!!!!(1=1))"), 1);
        due("closed behind its (C), [", way("k(!!!!(1=1)|[[[[[1]]]]]=1)"), 1);
        due("and no deeper", way("k(!!!!(1=1)|[[[[[[1]]]]]]=1)"), -5017);
    }

    /** "1 what can't stand there (the end, too)": every text that is cut off. */
    private static void theEndTooIsAFault() {
        String law = "h12+d*[3-m]%7(!a<4&(s=5|u>6));hx(12345=1)";
        due("the law", law(law), 2);
        String way = "k(h>b&!(g=l|t<[m+1]*2));k(!!s=d%9)";
        due("the way", way(way), 2);
        String story = "d*[n+12]-[7/[d+1]]%99999";
        due("the story", story(story), 1);
        for (int n = 1; n < law.length(); n++) {
            due("law cut at " + n, law(law.substring(0, n)), n == law.indexOf(';') ? 1 : -1000 - n);
        }
        for (int n = 1; n < way.length(); n++) {
            due("way cut at " + n, way(way.substring(0, n)), n == way.indexOf(';') ? 1 : -1000 - n);
        }
        for (int n = 1; n < story.length(); n++) {
            due("story cut at " + n, story(story.substring(0, n)), isWhole(story.substring(0, n)) ? 1 : -1000 - n);
        }
    }

    /** Whether an E that is right so far could end here: all closed, and not behind a sign that asks for more. */
    private static boolean isWhole(String text) {
        int open = 0;
        for (char sign : text.toCharArray()) {
            open += sign == '[' ? 1 : sign == ']' ? -1 : 0;
        }
        char last = text.charAt(text.length() - 1);
        return open == 0 && (last == ']' || DIGITS.indexOf(last) >= 0 || LETTERS.indexOf(last) >= 0);
    }

    private interface Teller {
        int tell(String text);
    }

    /** Of all bytes behind a beginning just those can stand: the others are fault 1 at their place. */
    private static void canStand(String kind, String beginning, String signs, Teller teller) {
        for (int sign = 0; sign < 256; sign++) {
            int fault = -1000 - beginning.length();
            boolean stands = signs.indexOf(sign) >= 0;
            int answer = teller.tell(beginning + (char) sign);
            due(kind + " " + beginning + " and byte " + sign, answer == fault ? 0 : 1, stands ? 1 : 0);
        }
    }

    /** "no blanks"; "of a LAW: h, E and (C)": at each place every byte. */
    private static void whatCanStandInALaw() {
        Teller law = TextBoundsTest::law;
        canStand("law", "", "h", law);
        canStand("law", "h", DIGITS + LETTERS + "[", law);
        canStand("law", "h1", DIGITS + "+-*/%(", law);
        canStand("law", "h12345", DIGITS + "+-*/%(", law);
        canStand("law", "hd", "+-*/%(", law);
        canStand("law", "h[", DIGITS + LETTERS + "[", law);
        canStand("law", "h[d", "+-*/%]", law);
        canStand("law", "h[d]", "+-*/%(", law);
        canStand("law", "h1+", DIGITS + LETTERS + "[", law);
        canStand("law", "h1%", DIGITS + LETTERS + "[", law);
        canStand("law", "h1(", DIGITS + LETTERS + "[(!", law);
        canStand("law", "h1(d=d)", ";", law);
        canStand("law", "h1(d=d);", "h", law);
    }

    /** "of a READER's WAY: k and (C)", and all that a C is made of. */
    private static void whatCanStandInAWay() {
        Teller way = TextBoundsTest::way;
        canStand("way", "", "k", way);
        canStand("way", "k", "(", way);
        canStand("way", "k(", DIGITS + LETTERS + "[(!", way);
        canStand("way", "k((", DIGITS + LETTERS + "[(!", way);
        canStand("way", "k(!", DIGITS + LETTERS + "[(!", way);
        canStand("way", "k(h", "+-*/%<>=", way);
        canStand("way", "k(9", DIGITS + "+-*/%<>=", way);
        canStand("way", "k([h", "+-*/%]", way);
        canStand("way", "k([h]", "+-*/%<>=", way);
        canStand("way", "k(h<", DIGITS + LETTERS + "[", way);
        canStand("way", "k(h>", DIGITS + LETTERS + "[", way);
        canStand("way", "k(h=", DIGITS + LETTERS + "[", way);
        canStand("way", "k(h<b", "+-*/%&|)", way);
        canStand("way", "k(h<9", DIGITS + "+-*/%&|)", way);
        canStand("way", "k(h<[b]", "+-*/%&|)", way);
        canStand("way", "k(h<b&", DIGITS + LETTERS + "[(!", way);
        canStand("way", "k(h<b|", DIGITS + LETTERS + "[(!", way);
        canStand("way", "k((h<b)", "&|)", way);
        canStand("way", "k(!(h<b)", "&|)", way);
        canStand("way", "k(h<b)", ";", way);
        canStand("way", "k(h<b);", "k", way);
    }

    /** "STORIES ..: a TEXT of one E". */
    private static void whatCanStandInAStory() {
        Teller story = TextBoundsTest::story;
        canStand("story", "", DIGITS + LETTERS + "[", story);
        canStand("story", "d", "+-*/%", story);
        canStand("story", "9", DIGITS + "+-*/%", story);
        canStand("story", "[", DIGITS + LETTERS + "[", story);
        canStand("story", "[n", "+-*/%]", story);
        canStand("story", "[n]", "+-*/%", story);
        canStand("story", "n-", DIGITS + LETTERS + "[", story);
        canStand("story", "n/", DIGITS + LETTERS + "[", story);
    }

    /** "FAULTS, the first from the left". */
    private static void firstFaultFromTheLeft() {
        due("1 ahead of 2", way("k(1==123456)"), -1004);
        due("2 ahead of 1", way("k(123456==1)"), -2007);
        due("1 ahead of 5", way("k(1=)&(((((((1"), -1004);
        due("5 ahead of 1", way("k(((((((1=)"), -5007);
        due("5 ahead of 2", way("k(((((((123456"), -5007);
        due("2 ahead of 5", way("k(123456=[[[[[[[1"), -2007);
        due("2 ahead of 4", way("k(123456=1);" + "k(1=1);".repeat(12)), -2007);
        due("4 ahead of 5", way("k(1=1);".repeat(12) + "k(((((((1"), -4084);
    }

    /** "Letters of all TEXTS may stand in each; those that are not its own are 0." */
    private static void lettersNotItsOwn() {
        ScruffPaper x = withSource();
        x.source(false, 719, 1, 2, 127);
        Due.law(x, 1, "h9(1=1)");
        Due.way(x, 0, "k(m=1|m=3)");
        x.night(5, 7);
        x.marks(0, 5, NONE);
        for (char letter : "hbgltn".toCharArray()) {
            due("a law of " + letter, Due.law(x, 0, "h1+" + letter + "(" + letter + "=0)"), 1);
            due("it is 0: " + letter, x.height(0, 5, 720), 1);
        }
        for (char letter : "auxn".toCharArray()) {
            due("a way of " + letter, Due.way(x, 0, "k(" + letter + "=0)"), 1);
            due("it is 0 all day: " + letter, x.marks(0, 5, 1), 1439);
        }
        for (char letter : "msaufxhbglt".toCharArray()) {
            due("a story of " + letter, Due.story(x, 0, "1+" + letter), 1);
            due("it is 0: " + letter, x.says(0, 0), 1);
        }
        due("its own", Due.story(x, 0, "d"), 1);
        due("its own are not", x.says(0, 0), 5);
    }

    /** "All is reckoned with 32 bits, as the machine does". */
    private static void thirtyTwoBits() {
        String least = "32768*32768*2";
        due("the least int", Due.worth(least), Integer.MIN_VALUE);
        due("less 1 is the greatest", Due.worth(least + "-1"), Integer.MAX_VALUE);
        due("and 1 more is the least again", Due.worth(least + "-1+1"), Integer.MIN_VALUE);
        due("times 2", Due.worth(least + "*2+3"), 3);
        due("the least through -1", Due.worth("[" + least + "]/[0-1]"), Integer.MIN_VALUE);
        due("the least modulo -1", Due.worth("[" + least + "]%[0-1]+5"), 5);
        due("0 less the least", Due.worth("0-[" + least + "]"), Integer.MIN_VALUE);
        due("99999 squared", Due.worth("99999*99999"), 99999 * 99999);
        due("to 0 rounded", Due.worth("[0-7]/2"), -3);
        due("the rest has the sign of the left", Due.worth("[0-7]%2"), -1);
        due("and not of the right", Due.worth("7%[0-2]"), 1);
        due("compared with their signs", Due.holds(least + "<0"), 1);
        due("the least is below the greatest", Due.holds(least + "<" + least + "-1"), 1);
        due("wrapped to be like", Due.holds("65536*65536=0"), 1);
    }

    /** "what is divided by 0 is REFUSED: then a C does not hold, an E is 0." */
    private static void dividedByZero() {
        due("an E through 0", Due.worth("7/0"), 0);
        due("an E modulo 0", Due.worth("7%0"), 0);
        due("0 through 0", Due.worth("0/0"), 0);
        due("through 1", Due.worth("7/1"), 7);
        due("modulo 1", Due.worth("9+7%1"), 9);
        due("through -1", Due.worth("7/[0-1]"), -7);
        due("all of the E is 0", Due.worth("5+7/0"), 0);
        due("behind it, too", Due.worth("7/0+5"), 0);
        due("by a letter that is 0", Due.worth("5+7/n"), 0);
        due("by one that is not", Due.worth("5+7/d"), 6);
        due("a C through 0", Due.holds("7/0=0"), 0);
        due("a C modulo 0", Due.holds("7%0=0"), 0);
        due("on the right side", Due.holds("0=7/0"), 0);
        due("nor does it hold with !", Due.holds("!7/0=0"), 0);
        ScruffPaper x = withSource();
        due("a law whose first C is refused", Due.law(x, 0, "h5(1/0=0);h6(1=1)"), 2);
        due("goes on to the second", x.height(0, 0, 720), 6);
        due("a law whose first E is refused", Due.law(x, 0, "h5/0(1=1);h6(1=1)"), 2);
        due("is 0 and does not go on", x.height(0, 0, 720), 0);
        due("so is the paper", x.paper(0, 720, 1), 4);
        due("a way refused at minute 0 alone", Due.way(x, 0, "k(5/m>4)"), 1);
        due("marks from minute 1", x.marks(0, 0, 0), 1);
        due("to minute 1", x.marks(0, 0, 1), 1);
        due("a way whose first k is refused at minute 0", Due.way(x, 0, "k(5/m>4);k(m=0)"), 2);
        due("has a second that holds", x.marks(0, 0, 0), 0);
    }

    /** "Of a C as much is asked, from the left, as matters." */
    private static void askedAsMuchAsMatters() {
        due("a part that holds ends it", Due.holds("1=1|1/0=0"), 1);
        due("a part that does not goes on", Due.holds("1=2|1/0=0|1=1"), 0);
        due("a piece that does not hold ends its part", Due.holds("1=2&1/0=0|1=1"), 1);
        due("a piece that holds goes on", Due.holds("1=1&1/0=0|1=1"), 0);
        due("the third part is not asked", Due.holds("1=2|1=1|1/0=0"), 1);
        due("the third piece is not asked", Due.holds("1=1&1=2&1/0=0|1=1"), 1);
        due("within brackets", Due.holds("(1=1|1/0=0)&1=1"), 1);
        due("within brackets, &", Due.holds("(1=2&1/0=0)|1=1"), 1);
        due("behind a !", Due.holds("!(1=2&1/0=0)"), 1);
        due("an E is asked whole", Due.holds("0*[1/0]=0"), 0);
        due("both sides are asked", Due.holds("1=2/0|1=1"), 0);
        due("from the left", Due.holds("1/0=0|1=1"), 0);
    }

    /** "TERMS with + or - between two; a TERM: FACTORS with one of * / % between two; from the left on". */
    private static void fromTheLeftOn() {
        due("10-3-2", Due.worth("10-3-2"), 5);
        due("10-3+2", Due.worth("10-3+2"), 9);
        due("100/7/2", Due.worth("100/7/2"), 7);
        due("100%7*3", Due.worth("100%7*3"), 6);
        due("3*100%7", Due.worth("3*100%7"), 6);
        due("2*7/3", Due.worth("2*7/3"), 4);
        due("7/3*2", Due.worth("7/3*2"), 4);
        due("1+2*3-8/4", Due.worth("1+2*3-8/4"), 5);
        due("[1+2]*[3-8]/4", Due.worth("[1+2]*[3-8]/4"), -3);
    }

    /** "E, one of < > =, and E", and "!PIECE". */
    private static void compared() {
        String[] signs = {"<", "=", ">"};
        for (int left = 1; left <= 3; left++) {
            for (int i = 0; i < 3; i++) {
                String piece = left + signs[i] + "2";
                int want = i == Integer.signum(left - 2) + 1 ? 1 : 0;
                due(piece, Due.holds(piece), want);
                due("!" + piece, Due.holds("!" + piece), 1 - want);
                due("!!" + piece, Due.holds("!!" + piece), want);
                due("!(" + piece + ")", Due.holds("!(" + piece + ")"), 1 - want);
            }
        }
        due("! of a piece, not of its part", Due.holds("!1=2&1=2"), 0);
        due("! of a piece, not of all parts", Due.holds("!1=1|1=1"), 1);
        due("& before |", Due.holds("1=1|1=2&1=2"), 1);
        due("brackets before &", Due.holds("(1=1|1=2)&1=2"), 0);
    }
}
