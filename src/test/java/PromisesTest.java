/** Promise by promise: ordinary inputs, the edges that the document names, and wrong inputs. */
public final class PromisesTest {
    private static final int NONE = ScruffPaper.NONE;

    public static void main(String[] args) {
        newObject();
        source();
        seed();
        feed();
        law();
        lawFaults();
        clausesAndDepth();
        reckoning();
        asMuchAsMatters();
        way();
        story();
        star();
        height();
        paper();
        marks();
        readersLetters();
        passed();
        note();
        one();
        known();
        row();
        blip();
        fits();
        beats();
        counted();
        sure();
        lost();
        night();
        says();
        falls();
        told();
        bound();
        there();
        pen();
        odds();
        more();
        check();
        count();
        Due.end();
    }

    private static void due(String what, long got, long want) {
        Due.same(what, got, want);
    }

    /** A paper with one source that is there all week, 30 minutes about noon by the clock, with a law. */
    private static ScruffPaper withLaw(String text) {
        ScruffPaper x = new ScruffPaper();
        x.source(false, 720, 30, 1, 127);
        due("law " + text, Due.law(x, 0, text) > 0 ? 1 : 0, 1);
        return x;
    }

    private static int faultOfLaw(String text) {
        ScruffPaper x = new ScruffPaper();
        x.source(false, 720, 30, 1, 127);
        return Due.law(x, 0, text);
    }

    private static int faultOfWay(String text) {
        return Due.way(new ScruffPaper(), 0, text);
    }

    private static int faultOfStory(String text) {
        return Due.story(new ScruffPaper(), 0, text);
    }

    private static void newObject() {
        ScruffPaper x = new ScruffPaper();
        for (int what = 0; what <= 5; what++) {
            due("new count " + what, x.count(what), 0);
        }
        due("new count 10", x.count(10), NONE);
        for (int k = 0; k < 4; k++) {
            due("new way " + k, x.count(20 + k), 0);
            due("new marks " + k, x.marks(k, 0, NONE), 0);
        }
        for (int k = 0; k < 6; k++) {
            due("new story " + k, x.count(30 + k), 0);
        }
        due("new paper", x.paper(0, 0, 0), 0);
        due("new shape", x.paper(0, 0, 1), 4);
        due("NONE", ScruffPaper.NONE, -1);
        ScruffPaper other = new ScruffPaper();
        other.night(1, 1);
        due("objects keep apart", x.count(3), 0);
    }

    private static void source() {
        ScruffPaper x = new ScruffPaper();
        due("minute -1", x.source(true, -1, 0, 0, 0), NONE);
        due("minute 1440", x.source(true, 1440, 0, 0, 0), NONE);
        due("wide -1", x.source(true, 0, -1, 0, 0), NONE);
        due("wide 31", x.source(true, 0, 31, 0, 0), NONE);
        due("shape -1", x.source(true, 0, 0, -1, 0), NONE);
        due("shape 4", x.source(true, 0, 0, 4, 0), NONE);
        due("weekdays -1", x.source(true, 0, 0, 0, -1), NONE);
        due("weekdays 128", x.source(true, 0, 0, 0, 128), NONE);
        due("none came", x.count(0), 0);
        due("least", x.source(false, 0, 0, 0, 0), 0);
        due("greatest", x.source(true, 1439, 30, 3, 127), 1);
        for (int i = 2; i < 10; i++) {
            due("source " + i, x.source(true, 5, 5, 1, 127), i);
        }
        due("an eleventh", x.source(true, 5, 5, 1, 127), NONE);
        due("ten are there", x.count(0), 10);
    }

    private static void seed() {
        ScruffPaper x = new ScruffPaper();
        x.source(false, 0, 0, 0, 127);
        x.source(false, 0, 0, 0, 127);
        Due.law(x, 0, "hx(1=1)");
        Due.law(x, 1, "hx(1=1)");
        due("luck by seed 0", x.height(0, 0, 0), 49);
        due("luck of source 1", x.height(1, 0, 0), 80);
        due("paper by seed 0", x.paper(0, 0, 0), 129);
        Due.same("seed 1", x.seed(1), true);
        due("luck by seed 1", x.height(0, 0, 0), 22);
        due("paper by seed 1 is new", x.paper(0, 0, 0), 22 + x.height(1, 0, 0));
        Due.same("seed 999", x.seed(999), true);
        due("luck by seed 999", x.height(0, 0, 0), 88);
        Due.same("seed 1000", x.seed(1000), false);
        Due.same("seed -1", x.seed(-1), false);
        due("seed stays", x.count(4), 999);
        Due.same("seed 0", x.seed(0), true);
        due("seed 0 again", x.count(4), 0);
    }

    private static void feed() {
        ScruffPaper x = new ScruffPaper();
        for (int i = 1; i <= 10; i++) {
            due("feed " + i, x.feed(0x6b283131, 0x3d313129, -1, 0, 7), 20 * i);
        }
        due("an eleventh feed", x.feed(0, 0, 0, 0, 0), NONE);
        due("the tape is full", x.count(5), 200);
        due("highest byte first", x.way(0, 8), 1);
        due("the tape is empty", x.count(5), 0);
        due("feed again", x.feed(0, 0, 0, 0, 0), 20);
    }

    private static void law() {
        ScruffPaper x = new ScruffPaper();
        Due.put(x, "h5(1=1)");
        due("no such source", x.law(0, 7), NONE);
        due("the tape stays", x.count(5), 20);
        x.source(false, 720, 0, 1, 127);
        due("source -1", x.law(-1, 7), NONE);
        due("n 0", x.law(0, 0), NONE);
        due("n -1", x.law(0, -1), NONE);
        due("n 21 of 20", x.law(0, 21), NONE);
        due("the tape still stays", x.count(5), 20);
        due("one clause", x.law(0, 7), 1);
        due("the tape is empty", x.count(5), 0);
        due("its height", x.height(0, 0, 720), 5);
        due("paper", x.paper(0, 720, 0), 5);
        due("another law", Due.law(x, 0, "h6(1=2);h7(d=0);h8(1=1)"), 3);
        due("in place of the one before", x.height(0, 0, 720), 7);
        due("the paper too", x.paper(0, 720, 0), 7);
        due("the third clause", x.paper(1, 720, 0), 8);
        due("a fault", Due.law(x, 0, "h9(1=1"), -1006);
        due("the tape is empty at a fault", x.count(5), 0);
        due("the text before stays", x.height(0, 0, 720), 7);
        due("its clauses stay", x.count(10), 3);
        String longest = "h" + "1+".repeat(56) + "11(1=1)";
        due("120 bytes", longest.length(), 120);
        due("law of 120 bytes", Due.law(x, 0, longest), 1);
        due("its height", x.height(0, 0, 720), 67);
        Due.put(x, longest + "2");
        due("121 bytes", x.law(0, 121), NONE);
        due("120 of the 121", x.law(0, 120), 1);
    }

    private static void lawFaults() {
        due("a blank", faultOfLaw("h 1(1=1)"), -1001);
        due("byte 0", faultOfLaw("h1\0"), -1002);
        due("byte 255", faultOfLaw("h1(\u00ff=1)"), -1003);
        due("letter of no text", faultOfLaw("hk(1=1)"), -1001);
        due("letters of all texts", faultOfLaw("hd+m+s+a+u+f+x+h+b+g+l+t+n(1=1)"), 1);
        due("great letter", faultOfLaw("hD(1=1)"), -1001);
        due("two signs", faultOfLaw("h1+-1(1=1)"), -1003);
        due("no E", faultOfLaw("h(1=1)"), -1001);
        due("no C", faultOfLaw("h1"), -1002);
        due("an empty C", faultOfLaw("h1()"), -1003);
        due("an empty [", faultOfLaw("h[](1=1)"), -1002);
        due("] too many", faultOfLaw("h1](1=1)"), -1002);
        due("] lacking", faultOfLaw("h[1(1=1)"), -1003);
        due(") too many", faultOfLaw("h1(1=1))"), -1007);
        due("two comparisons", faultOfLaw("h1(1=1=1)"), -1006);
        due("an E alone", faultOfLaw("h1(1&1=1)"), -1004);
        due("a C compared", faultOfLaw("h1((1=1)=1)"), -1008);
        due("a C in an E", faultOfLaw("h1(1+(1=1))"), -1005);
        due("a C added", faultOfLaw("h1((1=1)+1=2)"), -1008);
        due("! in an E", faultOfLaw("h1(1+!1=1)"), -1005);
        due("! at the end", faultOfLaw("h1(!"), -1004);
        due("an & at the end", faultOfLaw("h1(1=1&)"), -1007);
        due("a | first", faultOfLaw("h1(|1=1)"), -1003);
        due("nothing behind ;", faultOfLaw("h1(1=1);"), -1008);
        due("; twice", faultOfLaw("h1(1=1);;h1(1=1)"), -1008);
        due("k in a law", faultOfLaw("h1(1=1);k(1=1)"), -1008);
        due("clauses without ;", faultOfLaw("h1(1=1)h1(1=1)"), -1007);
        due("five digits", faultOfLaw("h99999(1=1)"), 1);
        due("a sixth digit", faultOfLaw("h1(1=000001)"), -2010);
        due("a number and a letter", faultOfLaw("h12d(1=1)"), -1003);
        due("a letter and a number", faultOfLaw("hd12(1=1)"), -1002);
        due("two letters", faultOfLaw("hdm(1=1)"), -1002);
        due("a number at the end", faultOfLaw("h12345"), -1006);
        due("the first fault from the left", faultOfLaw("h1(1==123456)"), -1005);
    }

    private static void clausesAndDepth() {
        String twelve = "k(1=1);".repeat(12);
        due("12 clauses", faultOfWay(twelve.substring(0, 83)), 12);
        due("12 clauses and ;", faultOfWay(twelve), -1084);
        due("a 13th", faultOfWay(twelve + "k(1=1)"), -4084);
        due("a 13th letter alone", faultOfWay(twelve + "k"), -4084);
        due("no 13th letter", faultOfWay(twelve + "h"), -1084);
        due("six (", faultOfWay("k((((((1=1))))))"), 1);
        due("seven (", faultOfWay("k(((((((1=1)))))))"), -5007);
        due("six ( and [", faultOfWay("k(((((([1]=1))))))"), -5007);
        due("five ( and [", faultOfWay("k((((([1]=[1])))))"), 1);
        due("( and five !", faultOfWay("k(!!!!!1=1)"), 1);
        due("( and six !", faultOfWay("k(!!!!!!1=1)"), -5007);
        due("a ! is open in its E", faultOfWay("k(!!!!!1=[1])"), -5009);
        due("a ! is closed behind its piece", faultOfWay("k(!!!!!1=1&!!!!!1=1|(((([1]=1)))))"), 1);
        due("a ! is closed behind its bracket", faultOfWay("k(!!!!(1=1)&!!!!(1=1))"), 1);
        due("a ! is open in its bracket", faultOfWay("k(!!!!(!1=1))"), -5007);
        due("a seventh that can't stand", faultOfWay("k((((((1("), -1008);
        due("a seventh behind |", faultOfWay("k(1=1|((((((1=1"), -5011);
        due("a seventh behind &", faultOfWay("k(1=1&((((((1=1"), -5011);
        due("a sixth digit behind |", faultOfWay("k(1=1|111111=1)"), -2011);
        due("a sixth digit behind &", faultOfWay("k(1=1&111111=1)"), -2011);
        due("a sixth digit behind !", faultOfWay("k(!111111=1)"), -2008);
        due("a sixth digit behind +", faultOfWay("k(1+111111=1)"), -2009);
        due("a sixth digit behind *", faultOfWay("k(1*111111=1)"), -2009);
        due("a sixth digit in [", faultOfWay("k([111111]=1)"), -2008);
        due("a sixth digit in (", faultOfWay("k((111111=1))"), -2008);
        due("[ ahead of the clause's bracket", faultOfLaw("h[[[[[[1]]]]]]((((((1=1))))))"), 1);
        due("seven [ ahead", faultOfLaw("h[[[[[[[1]]]]]]](1=1)"), -5007);
        due("[ behind one another", faultOfLaw("h[1]+[1]+[1]+[1]+[1]+[1]+[1]+[1](1=1)"), 1);
        due("a story's seventh [", faultOfStory("[[[[[[[1"), -5006);
        due("a story's six [", faultOfStory("[[[[[[1]]]]]]"), 1);
    }

    private static void reckoning() {
        due("from the left on", Due.worth("10-3-2"), 5);
        due("terms first", Due.worth("2+3*4"), 14);
        due("factors from the left", Due.worth("100/7*7%10"), 8);
        due("brackets", Due.worth("[2+3]*4"), 20);
        due("to 0 rounded", Due.worth("[0-7]/2"), -3);
        due("the rest of less than 0", Due.worth("[0-7]%4"), -3);
        due("32 bits", Due.worth("99999*99999"), 1409865409);
        due("32 bits below 0", Due.worth("[0-99999]*99999"), -1409865409);
        due("least int through -1", Due.worth("[[[2-4]*32768*32768]]/[0-1]"), Integer.MIN_VALUE);
        due("least int modulo -1", Due.worth("[[2-4]*32768*32768]%[0-1]"), 0);
        due("d of a story", Due.worth("d"), 5);
        due("letters of others", Due.worth("m+s+a+u+f+x+h+b+g+l+t+1"), 1);
        due("through 0", Due.worth("7+1/0"), 0);
        due("modulo 0", Due.worth("7+1%[d-5]"), 0);
        due("through 0 in brackets", Due.worth("7+[1/0]"), 0);
        due("0 through 0 times 0", Due.worth("0*[0/0]+3"), 0);
        due("leading zeros", Due.worth("00007"), 7);
        due("below", Due.holds("1<2"), 1);
        due("not below", Due.holds("2<2"), 0);
        due("above", Due.holds("2>1"), 1);
        due("not above", Due.holds("2>2"), 0);
        due("like", Due.holds("1+1=2"), 1);
        due("compared with a sign", Due.holds("0-1<0"), 1);
        due("not", Due.holds("!1=2"), 1);
        due("not not", Due.holds("!!1=2"), 0);
        due("not like", Due.holds("!1=1"), 0);
        due("not above", Due.holds("!2>1"), 0);
        due("not below", Due.holds("!1<2"), 0);
        due("not of brackets", Due.holds("!(1=1&2=2)"), 0);
        due("not of a piece alone", Due.holds("!1=2&1=2"), 0);
        due("& before |", Due.holds("1=1|1=2&1=2"), 1);
        due("| in brackets", Due.holds("(1=1|1=2)&1=2"), 0);
        due("three parts", Due.holds("1=2|1=2|1=1"), 1);
        due("three pieces", Due.holds("1=1&1=1&1=2"), 0);
        due("a part behind pieces", Due.holds("1=2&1=1|1=1&1=1"), 1);
    }

    private static void asMuchAsMatters() {
        due("a C does not hold", Due.holds("1/0=0"), 0);
        due("nor does its contrary", Due.holds("!1/0=0"), 0);
        due("nor in brackets", Due.holds("!(1/0=0)"), 0);
        due("nor does a part behind it", Due.holds("1/0=0|1=1"), 0);
        due("nor behind brackets", Due.holds("(1/0=0)|1=1"), 0);
        due("a part ahead", Due.holds("1=1|1/0=0"), 1);
        due("a piece ahead", Due.holds("!(1=2&1/0=0)"), 1);
        due("what is not asked in the midst", Due.holds("1=2&1/0=0|1=1"), 1);
        due("asked on", Due.holds("1=1&1/0=0|1=1"), 0);
        due("not asked twice", Due.holds("1=2&1/0=0&1/0=0|1=1|1/0=0"), 1);
        due("both sides are asked", Due.holds("1=2/0|1=1"), 0);
        due("the next clause", withLaw("h5(1/0=0);h6(1=1)").height(0, 0, 720), 6);
        due("the E of the first that holds", withLaw("h5/0(1=1);h6(1=1)").height(0, 0, 720), 0);
    }

    private static void way() {
        ScruffPaper x = withLaw("h50-a(1=1)");
        Due.put(x, "k(h>48)");
        due("reader -1", x.way(-1, 7), NONE);
        due("reader 4", x.way(4, 7), NONE);
        due("n 0", x.way(0, 0), NONE);
        due("n 121", x.way(0, 121), NONE);
        due("n 21 of 20", x.way(0, 21), NONE);
        due("the tape stays", x.count(5), 20);
        due("one clause", x.way(3, 7), 1);
        due("the tape is empty", x.count(5), 0);
        due("its mark begins", x.marks(3, 0, 0), 719);
        due("another way", Due.way(x, 3, "k(h=50);k(h>45&h<49)"), 2);
        due("in place of the one before", x.marks(3, 0, NONE), 3);
        due("a fault", Due.way(x, 3, "k(h=50);h1(1=1)"), -1008);
        due("an E", Due.way(x, 3, "k1(h=50)"), -1001);
        due("the end", Due.way(x, 3, "k"), -1001);
        due("the text before stays", x.marks(3, 0, NONE), 3);
        due("its clauses stay", x.count(23), 2);
        due("other readers have none", x.count(20), 0);
    }

    private static void story() {
        ScruffPaper x = new ScruffPaper();
        x.night(3, 0);
        Due.put(x, "d+1");
        due("story -1", x.story(-1, 3), NONE);
        due("story 6", x.story(6, 3), NONE);
        due("n 0", x.story(0, 0), NONE);
        due("n 21 of 20", x.story(0, 21), NONE);
        due("the tape stays", x.count(5), 20);
        due("told", x.story(5, 3), 1);
        due("the tape is empty", x.count(5), 0);
        due("it says", x.says(5, 0), 4);
        due("in place of the one before", Due.story(x, 5, "d+2"), 1);
        due("it says", x.says(5, 0), 5);
        due("a fault", Due.story(x, 5, "d+"), -1002);
        due("the text before stays", x.says(5, 0), 5);
        String longest = "1" + "0".repeat(4) + "+1".repeat(27) + "%";
        due("60 bytes", longest.length(), 60);
        due("the end, too", Due.story(x, 0, longest), -1060);
        due("60 bytes go", Due.story(x, 0, "12+" + "1+".repeat(28) + "d"), 1);
        due("60 bytes say", x.says(0, 0), 43);
        Due.put(x, "1+".repeat(30) + "1");
        due("61 bytes", x.story(0, 61), NONE);
        due("a C", x.story(0, 60), -1060);
        due("a sixth digit", faultOfStory("123456"), -2005);
        due("; in a story", faultOfStory("d;d"), -1001);
        due("( in a story", faultOfStory("d(1=1)"), -1001);
        due("h is a letter", faultOfStory("h"), 1);
        due("k is none", faultOfStory("k"), -1000);
    }

    private static void star() {
        ScruffPaper x = new ScruffPaper();
        due("day 0", x.star(0, 0), 0);
        due("day 0, last", x.star(0, 1439), 1439);
        due("day 1, round", x.star(1, 1436), 0);
        due("day 360, all round", x.star(360, 7), 7);
        due("day 399", x.star(399, 0), 156);
        due("day -1", x.star(-1, 0), NONE);
        due("day 400", x.star(400, 0), NONE);
        due("minute -1", x.star(0, -1), NONE);
        due("minute 1440", x.star(0, 1440), NONE);
    }

    private static void height() {
        ScruffPaper x = new ScruffPaper();
        x.source(true, 10, 2, 0, 127);
        due("no law", x.height(0, 1, 6), 0);
        Due.law(x, 0, "h7+a(1=1)");
        due("by star", x.height(0, 1, 6), 7);
        due("first by star", x.height(0, 1, 4), 9);
        due("last by star", x.height(0, 1, 8), 9);
        due("before", x.height(0, 1, 3), 0);
        due("behind", x.height(0, 1, 9), 0);
        due("round", x.height(0, 3, 1438), 7);
        x.source(false, 1439, 30, 0, 3);
        Due.law(x, 1, "h7+a(1=1)");
        due("by clock, farthest on", x.height(1, 1, 29), 37);
        due("by clock, too far on", x.height(1, 1, 30), 0);
        due("by clock, farthest back", x.height(1, 1, 1409), 37);
        due("by clock, too far back", x.height(1, 1, 1408), 0);
        due("not on weekday 2", x.height(1, 2, 1439), 0);
        due("on weekday 0", x.height(1, 7, 1439), 7);
        due("above 1000", withLaw("h1001(1=1)").height(0, 0, 720), 1000);
        due("1000", withLaw("h1000(1=1)").height(0, 0, 720), 1000);
        due("below 0", withLaw("h0-1(1=1)").height(0, 0, 720), 0);
        due("no clause holds", withLaw("h5(1=2)").height(0, 0, 720), 0);
        due("d", withLaw("hd(1=1)").height(0, 399, 720), 399);
        due("m", withLaw("hm(1=1)").height(0, 8, 721), 721);
        due("s", withLaw("hs(1=1)").height(0, 8, 721), 753);
        due("a", withLaw("ha(1=1)").height(0, 8, 715), 5);
        due("u", withLaw("hu(1=1)").height(0, 8, 750), 30);
        due("f", withLaw("hf(1=1)").height(0, 8, 721), 1);
        due("x", withLaw("hx(1=1)").height(0, 8, 721), 69);
        due("letters of others", withLaw("h9+h+b+g+l+t+n(1=1)").height(0, 8, 721), 9);
        due("source 2", x.height(2, 0, 0), NONE);
        due("source -1", x.height(-1, 0, 0), NONE);
        due("day -1", x.height(0, -1, 0), NONE);
        due("day 400", x.height(0, 400, 0), NONE);
        due("minute -1", x.height(0, 0, -1), NONE);
        due("minute 1440", x.height(0, 0, 1440), NONE);
    }

    private static void paper() {
        ScruffPaper x = withLaw("h30-a(d=0)");
        x.source(false, 720, 1, 3, 127);
        x.source(true, 720, 0, 2, 127);
        due("without law", x.paper(0, 720, 0), 30);
        Due.law(x, 1, "h30(1=1)");
        due("together", x.paper(0, 720, 0), 60);
        due("of like ones the lowest number", x.paper(0, 720, 1), 1);
        due("the highest", x.paper(0, 721, 1), 3);
        Due.law(x, 2, "h1000(d>0)");
        due("all 0 but one", x.paper(1, 720, 0), 30);
        due("its shape", x.paper(1, 720, 1), 3);
        due("the star's", x.paper(1, 716, 0), 1000);
        due("the star's shape", x.paper(1, 716, 1), 2);
        due("there, but 0", x.paper(1, 717, 1), 4);
        due("none there", x.paper(0, 0, 1), 4);
        due("none there, how high", x.paper(0, 0, 0), 0);
        x.source(false, 720, 0, 0, 127);
        Due.law(x, 3, "h999(1=1)");
        due("a source more", x.paper(0, 720, 0), 1059);
        due("its shape", x.paper(0, 720, 1), 0);
        Due.law(x, 0, "h1(d=9)");
        due("a height of 1", x.paper(9, 725, 0), 1);
        due("its shape", x.paper(9, 725, 1), 1);
        due("what 2", x.paper(0, 0, 2), NONE);
        due("what -1", x.paper(0, 0, -1), NONE);
        due("day -1", x.paper(-1, 0, 0), NONE);
        due("day 400", x.paper(400, 0, 0), NONE);
        due("minute -1", x.paper(0, -1, 0), NONE);
        due("minute 1440", x.paper(0, 1440, 0), NONE);
    }

    private static void marks() {
        ScruffPaper x = withLaw("h50-a(1=1)");
        Due.way(x, 0, "k(h>45&h<49);k(h=50)");
        due("how many", x.marks(0, 0, NONE), 3);
        int[] numbers = {716, 718, 48, 720, 720, 50, 722, 724, 48};
        for (int i = 0; i < numbers.length; i++) {
            due("number " + i, x.marks(0, 0, i), numbers[i]);
        }
        due("number 9", x.marks(0, 0, 9), NONE);
        due("the last int", x.marks(0, 0, Integer.MAX_VALUE), NONE);
        due("what -2", x.marks(0, 0, -2), NONE);
        due("the least int", x.marks(0, 0, Integer.MIN_VALUE), NONE);
        due("no way", x.marks(1, 0, NONE), 0);
        due("no way, no mark", x.marks(1, 0, 0), NONE);
        Due.way(x, 1, "k(1=1)");
        due("all day", x.marks(1, 399, NONE), 1);
        due("all day from", x.marks(1, 399, 0), 0);
        due("all day to", x.marks(1, 399, 1), 1439);
        due("all day's greatest", x.marks(1, 399, 2), 50);
        Due.way(x, 2, "k(m%2=0)");
        due("every other minute", x.marks(2, 0, NONE), 720);
        due("the last of them", x.marks(2, 0, 3 * 719), 1438);
        Due.way(x, 2, "k(m%2=1)");
        due("the others", x.marks(2, 0, 3 * 719 + 1), 1439);
        Due.law(x, 0, "h20(1=1)");
        due("by the new law", x.marks(0, 0, NONE), 0);
        due("reader -1", x.marks(-1, 0, NONE), NONE);
        due("reader 4", x.marks(4, 0, NONE), NONE);
        due("day -1", x.marks(0, -1, NONE), NONE);
        due("day 400", x.marks(0, 400, NONE), NONE);
    }

    private static void readersLetters() {
        ScruffPaper x = withLaw("h50-a(1=1)");
        Due.way(x, 0, "k(b=50)");
        due("b", x.marks(0, 0, 0), 721);
        Due.way(x, 0, "k(m=0&b=0&g=0&t=0&s=12&d=3&f=3&l=4&h=0)");
        due("at minute 0", x.marks(0, 3, 1), 0);
        Due.way(x, 0, "k(g=50)");
        due("g begins", x.marks(0, 0, 0), 721);
        due("g ends", x.marks(0, 0, 1), 730);
        Due.way(x, 0, "k(g=48&h<48)");
        due("g falls", x.marks(0, 0, 0), 732);
        due("g falls by one", x.marks(0, 0, 1), 732);
        Due.way(x, 0, "k(l=1)");
        due("l", x.marks(0, 0, 0), 690);
        due("l to", x.marks(0, 0, 1), 750);
        Due.way(x, 0, "k(m=5|m=6);k(t=1&m<12)");
        due("t waits for a minute", x.marks(0, 0, 3), 8);
        due("t holds", x.marks(0, 0, 4), 11);
        Due.way(x, 0, "k(m%4=0&t<3)");
        due("t stops", x.marks(0, 0, NONE), 3);
        Due.way(x, 0, "k(t=0)");
        due("the mark that goes on is not told", x.marks(0, 0, 1), 1439);
        Due.way(x, 0, "k(m<5);k(t=2);k(m=10)");
        due("a mark that ends", x.marks(0, 0, NONE), 3);
        due("two marks told", x.marks(0, 0, 6), 12);
        Due.way(x, 0, "k(a+u+x+n=0&m=9)");
        due("letters of others", x.marks(0, 0, 0), 9);
        Due.way(x, 0, "k(10/m>4)");
        due("refused at minute 0", x.marks(0, 0, 0), 1);
        due("refused at minute 0, to", x.marks(0, 0, 1), 2);
        x.seed(5);
        due("each day anew", x.marks(0, 7, 0), 1);
        tenMinutesBefore();
    }

    /** Paper 9 at minute 0, 4 at minute 10, 5 at minute 11. */
    private static void tenMinutesBefore() {
        ScruffPaper x = new ScruffPaper();
        int[] minutes = {0, 10, 11};
        int[] heights = {9, 4, 5};
        for (int i = 0; i < 3; i++) {
            x.source(false, minutes[i], 0, i, 127);
            Due.law(x, i, "h" + heights[i] + "(1=1)");
        }
        Due.way(x, 0, "k(b=9)");
        due("b at minute 1", x.marks(0, 0, 0), 1);
        Due.way(x, 0, "k(g=9)");
        due("g from minute 1", x.marks(0, 0, 0), 1);
        due("g to minute 10", x.marks(0, 0, 1), 10);
        Due.way(x, 0, "k(g=4)");
        due("then the greatest of the others", x.marks(0, 0, 0), 11);
        due("for that minute", x.marks(0, 0, 1), 11);
        Due.way(x, 0, "k(g=5)");
        due("then a greater one", x.marks(0, 0, 0), 12);
        due("for ten minutes", x.marks(0, 0, 1), 21);
    }

    private static void passed() {
        ScruffPaper x = withLaw("h50-a(d<40)");
        Due.way(x, 0, "k(h>48)");
        Due.way(x, 1, "k(h=47);k(h=49)");
        due("two of three or four", x.passed(0, 1, 0, 0, 0), 2);
        due("its day", x.passed(0, 1, 0, 0, 1), 0);
        due("its minute", x.passed(0, 1, 0, 0, 2), 717);
        due("none the other way", x.passed(1, 0, 0, 29, 0), 0);
        due("none: no day", x.passed(1, 0, 0, 29, 1), NONE);
        due("none: no minute", x.passed(1, 0, 0, 29, 2), NONE);
        due("30 days", x.passed(0, 1, 0, 29, 0), 60);
        due("31 days", x.passed(0, 1, 0, 30, 0), NONE);
        due("till the source is gone", x.passed(0, 1, 38, 67, 0), 4);
        due("by one without way", x.passed(2, 1, 5, 5, 0), 4);
        due("of one without way", x.passed(1, 2, 5, 5, 0), 0);
        due("by oneself", x.passed(1, 1, 5, 5, 0), 0);
        Due.way(x, 2, "k(m=3&d=7)");
        due("the first day", x.passed(1, 2, 2, 20, 1), 7);
        due("the first minute", x.passed(1, 2, 2, 20, 2), 3);
        due("the last day", x.passed(1, 2, 399, 399, 0), 0);
        Due.way(x, 3, "k(m<9&d=7)");
        due("met in the midst", x.passed(2, 3, 7, 7, 0), 0);
        due("met in the midst, the other way", x.passed(3, 2, 7, 7, 0), 0);
        due("at minute 0", x.passed(1, 3, 0, 29, 0), 1);
        due("at minute 0, when", x.passed(1, 3, 0, 29, 2), 0);
        Due.way(x, 2, "k(m=9&d=7)");
        due("side by side", x.passed(2, 3, 7, 7, 0), 1);
        due("side by side, the other way", x.passed(3, 2, 7, 7, 2), 9);
        due("reader -1", x.passed(-1, 0, 0, 0, 0), NONE);
        due("reader 4", x.passed(0, 4, 0, 0, 0), NONE);
        due("days back", x.passed(0, 1, 1, 0, 0), NONE);
        due("day -1", x.passed(0, 1, -1, 0, 0), NONE);
        due("day 400", x.passed(0, 1, 399, 400, 0), NONE);
        due("what 3", x.passed(0, 1, 0, 0, 3), NONE);
        due("what -1", x.passed(0, 1, 0, 0, -1), NONE);
        due("far days", x.passed(0, 1, Integer.MIN_VALUE, Integer.MAX_VALUE, 0), NONE);
    }

    private static void note() {
        ScruffPaper x = new ScruffPaper();
        due("the first", x.note(5, 0, 0), 0);
        due("a day before", x.note(4, 0, 0), NONE);
        due("the same day", x.note(5, 1439, 3), 1);
        due("day -1", x.note(-1, 0, 0), NONE);
        due("day 400", x.note(400, 0, 0), NONE);
        due("minute -1", x.note(6, -1, 0), NONE);
        due("minute 1440", x.note(6, 1440, 0), NONE);
        due("shape -1", x.note(6, 0, -1), NONE);
        due("shape 4", x.note(6, 0, 4), NONE);
        due("refused ones change nothing", x.note(5, 0, 0), 2);
        for (int i = 3; i < 40; i++) {
            due("note " + i, x.note(399, i, 1), i);
        }
        due("a 41st", x.note(399, 0, 0), NONE);
        due("40 are there", x.count(1), 40);
    }

    private static void one() {
        ScruffPaper x = new ScruffPaper();
        x.note(0, 10, 0);
        due("one alone", x.one(0, 700), NONE);
        x.note(5, 10, 1);
        due("of another shape", x.one(0, 700), NONE);
        x.note(5, 1430, 0);
        due("both, round", x.one(0, 20), 3);
        due("by star alone", x.one(0, 0), 1);
        due("by star alone still", x.one(0, 19), 1);
        x.note(10, 10, 1);
        due("by clock alone", x.one(1, 0), 2);
        due("by clock alone still", x.one(1, 19), 2);
        due("both", x.one(1, 20), 3);
        x.note(10, 720, 1);
        due("neither", x.one(1, 700), 0);
        x.note(20, 0, 2);
        x.note(20, 480, 2);
        x.note(20, 960, 2);
        due("a third of the round", x.one(2, 700), 0);
        due("shape -1", x.one(-1, 0), NONE);
        due("shape 4", x.one(4, 0), NONE);
        due("w -1", x.one(0, -1), NONE);
        due("w 701", x.one(0, 701), NONE);
    }

    private static void known() {
        ScruffPaper x = new ScruffPaper();
        x.note(0, 10, 0);
        due("one alone", x.known(0, 700), NONE);
        x.note(2, 10, 0);
        due("by clock on day 2", x.known(0, 7), 2);
        due("both on day 2", x.known(0, 8), NONE);
        x.note(5, 10, 0);
        due("by clock on day 5", x.known(0, 8), 5);
        due("since day 2 still", x.known(0, 7), 2);
        x.note(9, 700, 0);
        x.note(9, 10, 0);
        due("it stays known", x.known(0, 8), 5);
        due("a day is told whole", x.known(0, 30), NONE);
        x.note(9, 0, 1);
        x.note(9, 0, 1);
        due("both on one day", x.known(1, 0), NONE);
        x.note(19, 1400, 1);
        due("by star on day 19", x.known(1, 0), 19);
        due("by star on day 19 still", x.known(1, 39), 19);
        due("both on day 19", x.known(1, 40), NONE);
        due("shape 3", x.known(3, 0), NONE);
        due("shape 4", x.known(4, 0), NONE);
        due("shape -1", x.known(-1, 0), NONE);
        due("w -1", x.known(0, -1), NONE);
        due("w 701", x.known(0, 701), NONE);
    }

    private static void row() {
        ScruffPaper x = new ScruffPaper();
        due("no notes", x.row(0, 0, 0), NONE);
        due("no notes, no minute", x.row(0, 0, 1), NONE);
        x.note(0, 1435, 0);
        x.note(0, 5, 0);
        x.note(0, 100, 0);
        x.note(0, 110, 0);
        x.note(0, 300, 1);
        due("of two pairs", x.row(0, 10, 0), 2);
        due("the one that begins at the least", x.row(0, 10, 1), 100);
        due("one each", x.row(0, 9, 0), 1);
        due("the least", x.row(0, 9, 1), 5);
        due("round", x.row(0, 105, 1), 5);
        due("three of four", x.row(0, 105, 0), 3);
        due("all", x.row(0, 115, 0), 4);
        due("all from", x.row(0, 115, 1), 1435);
        due("the other shape", x.row(1, 700, 0), 1);
        due("the other shape from", x.row(1, 700, 1), 300);
        x.note(10, 60, 0);
        x.note(10, 60, 0);
        due("by star, three alike", x.row(0, 0, 0), 3);
        due("by star, where", x.row(0, 0, 1), 100);
        due("shape 4", x.row(4, 0, 0), NONE);
        due("shape -1", x.row(-1, 0, 0), NONE);
        due("w -1", x.row(0, -1, 0), NONE);
        due("w 701", x.row(0, 701, 0), NONE);
        due("what 2", x.row(0, 0, 2), NONE);
        due("what -1", x.row(0, 0, -1), NONE);
    }

    private static void blip() {
        ScruffPaper x = new ScruffPaper();
        due("time -1", x.blip(-1), NONE);
        due("time 0", x.blip(0), 0);
        due("the same", x.blip(0), NONE);
        due("the next", x.blip(1), 1);
        due("before", x.blip(0), NONE);
        due("too late", x.blip(1000000001), NONE);
        for (int i = 2; i < 39; i++) {
            due("blip " + i, x.blip(i), i);
        }
        due("the latest", x.blip(1000000000), 39);
        due("40 are there", x.count(2), 40);
        ScruffPaper y = new ScruffPaper();
        for (int i = 0; i < 40; i++) {
            y.blip(i);
        }
        due("a 41st", y.blip(50), NONE);
    }

    private static ScruffPaper withBlips(int... times) {
        ScruffPaper x = new ScruffPaper();
        for (int time : times) {
            x.blip(time);
        }
        return x;
    }

    private static void fits() {
        ScruffPaper x = withBlips(98, 203, 301);
        due("within 2", x.fits(100, 2), 0);
        due("within 3, round", x.fits(100, 3), 1);
        due("beat 1", x.fits(1, 0), 1);
        due("beat 0", x.fits(0, 0), NONE);
        due("beat 1000001", x.fits(1000001, 0), NONE);
        due("beat 1000000, not", x.fits(1000000, 101), 0);
        due("beat 1000000", x.fits(1000000, 102), 1);
        due("e -1", x.fits(100, -1), NONE);
        due("e 1001", x.fits(1000000, 1001), NONE);
        due("e 1000", x.fits(1000000, 1000), 1);
        due("2 e is p", x.fits(6, 3), NONE);
        due("2 e below p", x.fits(7, 3), 1);
        due("one blip", withBlips(5).fits(5, 0), NONE);
        due("two blips", withBlips(5, 15).fits(5, 0), 1);
        due("two blips, not", withBlips(5, 16).fits(5, 0), 0);
        due("an arc that both ways reach", withBlips(0, 4, 8).fits(12, 4), 1);
        due("an arc too short", withBlips(0, 4, 8).fits(12, 3), 0);
    }

    private static void beats() {
        ScruffPaper x = withBlips(0, 100, 300);
        due("without error", x.beats(1, 400, 0, 0), 9);
        due("the least", x.beats(1, 400, 0, 1), 1);
        due("the greatest", x.beats(1, 400, 0, 2), 100);
        due("from 30", x.beats(30, 60, 0, 1), 50);
        due("none", x.beats(60, 99, 0, 0), 0);
        due("none, least", x.beats(60, 99, 0, 1), NONE);
        due("none, greatest", x.beats(60, 99, 0, 2), NONE);
        due("one beat", x.beats(100, 100, 0, 0), 1);
        due("2000 apart", x.beats(1, 2001, 0, 0), 9);
        due("2001 apart", x.beats(1, 2002, 0, 0), NONE);
        due("from 0", x.beats(0, 5, 0, 0), NONE);
        due("back", x.beats(6, 5, 0, 0), NONE);
        due("to 1000000", x.beats(999990, 1000000, 150, 0), 11);
        due("to 1000001", x.beats(999990, 1000001, 150, 0), NONE);
        due("e -1", x.beats(10, 20, -1, 0), NONE);
        due("e 1001", x.beats(10000, 10010, 1001, 0), NONE);
        due("2 e is the first", x.beats(20, 30, 10, 0), NONE);
        due("2 e is below the first", x.beats(21, 30, 10, 0), 10);
        due("what 3", x.beats(1, 5, 0, 3), NONE);
        due("what -1", x.beats(1, 5, 0, -1), NONE);
        due("one blip", withBlips(7).beats(1, 5, 0, 0), NONE);
        due("far beats", x.beats(Integer.MIN_VALUE, Integer.MAX_VALUE, 0, 0), NONE);
    }

    private static void counted() {
        ScruffPaper x = withBlips(10, 14, 15, 16, 1000000000);
        due("blip 0", x.counted(0, 10), 0);
        due("less than half", x.counted(1, 10), 0);
        due("half: the greater", x.counted(2, 10), 1);
        due("more than half", x.counted(3, 10), 1);
        due("all of it", x.counted(4, 1), 999999990);
        due("a long beat", x.counted(4, 1000000), 1000);
        due("an uneven beat, below half", x.counted(1, 9), 0);
        due("an uneven beat, above half", x.counted(2, 9), 1);
        due("blip 5", x.counted(5, 1), NONE);
        due("blip -1", x.counted(-1, 1), NONE);
        due("beat 0", x.counted(0, 0), NONE);
        due("beat 1000001", x.counted(0, 1000001), NONE);
        due("one blip", withBlips(7).counted(0, 1), 0);
        due("no blips", new ScruffPaper().counted(0, 1), NONE);
    }

    private static void sure() {
        ScruffPaper x = withBlips(0, 100, 1000);
        due("by 99 to 101", x.sure(99, 101, 5), 1);
        due("by 50 and 100", x.sure(50, 100, 0), 0);
        due("none fits", x.sure(60, 90, 0), -2);
        due("one fits", x.sure(60, 100, 0), 1);
        due("from 0", x.sure(0, 10, 0), NONE);
        due("2001 apart", x.sure(1, 2002, 0), NONE);
        due("2 e is the first", x.sure(10, 20, 5), NONE);
        due("one blip", withBlips(7).sure(1, 5, 0), NONE);
    }

    private static void lost() {
        ScruffPaper x = withBlips(0, 100, 1000);
        due("50 and 100", x.lost(50, 100, 0), 1);
        due("least and greatest", x.beats(99, 101, 5, 0), 3);
        due("99 to 101", x.lost(99, 101, 5), 25);
        due("just half a beat", withBlips(0, 10000).lost(100, 125, 0), 2);
        due("rounded up", withBlips(0, 101 * 102).lost(101, 102, 0), 51);
        due("one alone", x.lost(60, 100, 0), -2);
        due("none", x.lost(60, 90, 0), -2);
        due("back", x.lost(60, 59, 0), NONE);
        due("e 1001", x.lost(9999, 9999, 1001), NONE);
        due("one blip", withBlips(7).lost(1, 5, 0), NONE);
    }

    private static void night() {
        ScruffPaper x = new ScruffPaper();
        due("day -1", x.night(-1, 0), NONE);
        due("day 400", x.night(400, 0), NONE);
        due("shift -100001", x.night(0, -100001), NONE);
        due("shift 100001", x.night(0, 100001), NONE);
        due("the last day", x.night(399, 100000), 0);
        due("a day before", x.night(0, -100000), 1);
        for (int i = 2; i < 30; i++) {
            due("night " + i, x.night(i, i), i);
        }
        due("a 31st", x.night(0, 0), NONE);
        due("30 are there", x.count(3), 30);
    }

    private static void says() {
        ScruffPaper x = new ScruffPaper();
        Due.story(x, 2, "d*1000-n*7");
        due("no nights", x.says(2, 0), -1000000);
        x.night(4, 0);
        x.night(3, 0);
        due("night 0", x.says(2, 0), 4000);
        due("night 1", x.says(2, 1), 2993);
        due("night 2", x.says(2, 2), -1000000);
        due("night -1", x.says(2, -1), -1000000);
        due("not told", x.says(1, 0), -1000000);
        due("story -1", x.says(-1, 0), -1000000);
        due("story 6", x.says(6, 0), -1000000);
    }

    private static void falls() {
        ScruffPaper x = new ScruffPaper();
        Due.story(x, 0, "100");
        due("no nights", x.falls(0, 0), -2);
        x.night(0, 100);
        x.night(0, 90);
        x.night(0, 115);
        due("error 0", x.falls(0, 0), 1);
        due("error 9", x.falls(0, 9), 1);
        due("error 10", x.falls(0, 10), 2);
        due("error 15", x.falls(0, 15), -2);
        Due.story(x, 1, "0-32768*32768*2");
        due("farther than an int goes", x.falls(1, 100000), 0);
        due("not told", x.falls(2, 0), NONE);
        due("story -1", x.falls(-1, 0), NONE);
        due("story 6", x.falls(6, 0), NONE);
        due("error -1", x.falls(0, -1), NONE);
        due("error 100001", x.falls(0, 100001), NONE);
        due("error 100000", x.falls(0, 100000), -2);
    }

    private static void told() {
        ScruffPaper x = new ScruffPaper();
        Due.story(x, 1, "0");
        due("no nights", x.told(0, 0), NONE);
        x.night(0, 0);
        due("one story", x.told(0, 0), 0);
        due("that story", x.told(0, 1), 1);
        Due.story(x, 3, "n");
        Due.story(x, 5, "n*n");
        due("several", x.told(0, 0), NONE);
        x.night(1, 1);
        due("two stand", x.told(0, 1), NONE);
        x.night(2, 4);
        due("one alone", x.told(0, 0), 2);
        due("which", x.told(0, 1), 5);
        due("what 2, while one is told", x.told(0, 2), NONE);
        due("what -1, while one is told", x.told(0, -1), NONE);
        due("error 100001, while one is told", x.told(100001, 0), NONE);
        due("error -1, while one is told", x.told(-1, 0), NONE);
        due("with an error", x.told(2, 0), NONE);
        x.night(3, 1000);
        due("the first night, though it falls behind", x.told(0, 0), 2);
        due("that one still", x.told(0, 1), 5);
        Due.story(x, 1, "n*n");
        Due.story(x, 3, "n*n");
        due("all fall at once", x.told(0, 0), NONE);
        due("error -1", x.told(-1, 0), NONE);
        due("error 100001", x.told(100001, 0), NONE);
        due("what 2", x.told(0, 2), NONE);
        due("what -1", x.told(0, -1), NONE);
        ScruffPaper y = new ScruffPaper();
        y.night(0, 0);
        due("none told", y.told(0, 0), NONE);
        Due.story(y, 0, "1");
        due("it falls at night 0", y.told(0, 0), NONE);
        Due.story(y, 0, "0");
        due("story 0", y.told(0, 1), 0);
        Due.story(y, 1, "0");
        due("story 0 and another", y.told(0, 1), NONE);
    }

    private static void bound() {
        ScruffPaper x = new ScruffPaper();
        due("no nights", x.bound(4, 0), 2000);
        x.night(0, 0);
        due("at its middle", x.bound(4, 0), 2000);
        x.night(1, 0);
        due("a quarter on", x.bound(4, 0), 0);
        due("a quarter on, error 7", x.bound(4, 7), 7);
        due("an eighth each", x.bound(8, 7), 15);
        due("year 400", x.bound(400, 1), 199);
        x.night(1, 50);
        due("none", x.bound(4, 24), -2);
        due("just so", x.bound(4, 25), 25);
        ScruffPaper y = new ScruffPaper();
        y.night(0, 300);
        y.night(2, -300);
        due("both ways", y.bound(4, 0), 300);
        due("both ways, error 100", y.bound(4, 100), 400);
        due("a shift of 2000 at the most", y.bound(4, 100000), 2000);
        due("year 3", y.bound(3, 0), NONE);
        due("year 401", y.bound(401, 0), NONE);
        due("error -1", y.bound(4, -1), NONE);
        due("error 100001", y.bound(4, 100001), NONE);
        ScruffPaper z = new ScruffPaper();
        z.night(0, 2001);
        due("too far", z.bound(4, 0), -2);
        due("just reached", z.bound(4, 1), 2000);
        ScruffPaper torn = new ScruffPaper();
        torn.night(0, 1);
        torn.night(2, 0);
        due("two nights that leave nothing in common", torn.bound(4, 0), -2);
        due("with an error of 1", torn.bound(4, 1), 2000);
        // All of W in a year of 7; 1001 times each of them is still rounded to it.
        ScruffPaper seventh = new ScruffPaper();
        int[] shifts = {0, 571, 858, 286, -285, -857, -572};
        for (int day = 0; day < 7; day++) {
            seventh.night(day, shifts[day]);
        }
        due("a whole year of 7", seventh.bound(7, 0), 1001);
        due("a whole year of 7, error 1", seventh.bound(7, 1), 1002);
    }

    private static void there() {
        ScruffPaper x = new ScruffPaper();
        Due.same("night -1", x.there(-1, 0), false);
        Due.same("night 40", x.there(40, 0), false);
        Due.same("ten -1", x.there(0, -1), false);
        Due.same("ten 11", x.there(0, 11), false);
        Due.same("night 0", x.there(0, 0), true);
        Due.same("night 39", x.there(39, 10), true);
        due("sure", x.pen(1, 1, 0), 39);
        Due.same("told anew", x.there(39, 0), true);
        due("as at first", x.pen(1, 1, 6), 10);
        due("as at first, night 0", x.pen(1, 1, 0), 0);
    }

    private static void pen() {
        ScruffPaper x = new ScruffPaper();
        due("at first", x.pen(6, 1, 6), 1000000);
        for (int i = 0; i < 6; i++) {
            due("at first, place " + i, x.pen(6, 7, i), 7 * i);
        }
        due("six by 8", x.pen(6, 8, 0), NONE);
        due("four by 10", x.pen(4, 10, 3), 30);
        due("five by 10", x.pen(5, 10, 0), NONE);
        due("five by 9", x.pen(5, 9, 4), 36);
        x.there(20, 6);
        x.there(23, 6);
        x.there(26, 6);
        due("two of three", x.pen(2, 3, 6), 16);
        due("the least row", x.pen(2, 3, 0), 20);
        due("the least row on", x.pen(2, 3, 1), 23);
        due("by 4", x.pen(2, 4, 1), 26);
        due("three by 4", x.pen(3, 4, 0), 0);
        due("three by 4, second", x.pen(3, 4, 1), 20);
        due("three by 4, unseen", x.pen(3, 4, 6), 160);
        x.there(1, 10);
        due("once sure, nothing else matters", x.pen(2, 1, 0), 0);
        due("once sure, second", x.pen(2, 1, 1), 1);
        due("sure first", x.pen(2, 2, 0), 1);
        due("sure first, then the least", x.pen(2, 2, 1), 3);
        due("k 0", x.pen(0, 1, 6), NONE);
        due("k 7", x.pen(7, 1, 6), NONE);
        due("apart 0", x.pen(1, 0, 0), NONE);
        due("apart 11", x.pen(1, 11, 0), NONE);
        due("what -1", x.pen(2, 1, -1), NONE);
        due("what k", x.pen(2, 1, 2), NONE);
        due("what 7", x.pen(6, 1, 7), NONE);
        due("what 5 of six", x.pen(6, 7, 5), 36);
    }

    private static void odds() {
        ScruffPaper x = new ScruffPaper();
        due("20 of 40 above", x.odds(20, 20, 10, 40, 0), 59676188);
        due("20 of 40 below", x.odds(20, 20, 10, 40, 1), 240990435);
        due("certain", x.odds(5, 4, 4, 5, 0), 1);
        due("certain below", x.odds(5, 4, 4, 5, 1), 1);
        due("least above", x.odds(20, 20, 0, 40, 0), 1);
        due("least below", x.odds(20, 20, 0, 40, 1), 137846528820L);
        due("by three of ten", x.odds(3, 2, 1, 10, 0), 7);
        due("by three of ten below", x.odds(3, 2, 1, 10, 1), 15);
        due("the order is all one", x.odds(2, 3, 1, 10, 1), 15);
        due("a 21", x.odds(21, 0, 0, 21, 0), NONE);
        due("b 21", x.odds(0, 21, 0, 21, 0), NONE);
        due("a -1", x.odds(-1, 0, 0, 0, 0), NONE);
        due("b -1", x.odds(0, -1, 0, 0, 0), NONE);
        due("c -1", x.odds(1, 1, -1, 5, 0), NONE);
        due("c above a", x.odds(1, 2, 2, 5, 0), NONE);
        due("c above b", x.odds(2, 1, 2, 5, 0), NONE);
        due("too few", x.odds(5, 5, 2, 7, 0), NONE);
        due("just enough", x.odds(5, 5, 2, 8, 0), 5);
        due("just enough, below", x.odds(5, 5, 2, 8, 1), 28);
        due("too many", x.odds(5, 5, 2, 41, 0), NONE);
        due("what 2", x.odds(5, 5, 2, 10, 2), NONE);
        due("what -1", x.odds(5, 5, 2, 10, -1), NONE);
    }

    private static void more() {
        ScruffPaper x = new ScruffPaper();
        due("from nobody seen", x.more(0, 0, 0, 1000, 0), 0);
        due("from nobody seen on", x.more(0, 0, 0, 1000, 1), 40);
        due("at 467", x.more(3, 2, 1, 466, 0), 4);
        due("at 466 last", x.more(3, 2, 1, 466, 1), 10);
        due("at 467 last", x.more(3, 2, 1, 467, 1), 9);
        due("just 500", x.more(3, 2, 1, 500, 0), 4);
        due("just 600", x.more(3, 2, 1, 600, 0), 5);
        due("just 600 last", x.more(3, 2, 1, 600, 1), 6);
        due("601", x.more(3, 2, 1, 601, 0), -2);
        due("to 40", x.more(3, 2, 1, 1, 1), 40);
        due("40 alone", x.more(20, 20, 0, 1, 0), -2);
        due("thousandths 0", x.more(3, 2, 1, 0, 0), NONE);
        due("thousandths 1001", x.more(3, 2, 1, 1001, 0), NONE);
        due("what 2", x.more(3, 2, 1, 1, 2), NONE);
        due("what -1", x.more(3, 2, 1, 1, -1), NONE);
        due("a 21", x.more(21, 2, 1, 1, 0), NONE);
        due("b 21", x.more(2, 21, 1, 1, 0), NONE);
        due("c above b", x.more(3, 2, 3, 1, 0), NONE);
        due("c -1", x.more(3, 2, -1, 1, 0), NONE);
    }

    private static void check() {
        ScruffPaper x = withLaw("h50-a(1=1)");
        Due.way(x, 0, "k(h>48);k(m=1439)");
        due("nothing told", x.check(0, 0, 0), 0);
        x.feed(719, 721, 50, 1439, 1439);
        due("one of two", x.check(0, 0, 1), 3);
        due("the tape is empty", x.count(5), 0);
        x.feed(719, 721, 50, 1439, 1439);
        due("it has not so many", x.check(0, 0, 2), -2);
        due("the tape stays", x.count(5), 20);
        x.feed(0, 719, 721, 50, 7);
        due("right", x.check(0, 0, 2), NONE);
        x.feed(719, 721, 50, 1439, 1438);
        x.feed(0, 0, 0, 0, 0);
        due("the fifth is not so", x.check(0, 0, 2), 4);
        x.feed(719, 721, 50, 1439, 1439);
        x.feed(0, -1, 0, 0, 0);
        due("one too many", x.check(0, 0, 3), 6);
        x.feed(718, 721, 50, 1439, 1439);
        due("the first is not so", x.check(0, 0, 1), 0);
        x.feed(719, 721, 50 + (1 << 24), 0, 0);
        due("by all four bytes", x.check(0, 0, 1), 2);
        x.feed(719, 721, 50, 1439, 1439);
        x.feed(0, 0, 0, 0, 0);
        x.feed(0, 0, 0, 0, 0);
        due("all of the tape", x.check(0, 0, 5), 6);
        Due.way(x, 2, "k(m=0)");
        x.feed(0, 0, 0, 0, 0);
        due("a mark at minute 0", x.check(2, 0, 1), NONE);
        due("no way, no numbers", x.check(1, 0, 0), NONE);
        x.feed(0, 0, 0, 0, 0);
        due("no way, numbers", x.check(1, 0, 1), 0);
        x.feed(0, 0, 0, 0, 0);
        due("reader -1", x.check(-1, 0, 0), -2);
        due("reader 4", x.check(4, 0, 0), -2);
        due("day -1", x.check(0, -1, 0), -2);
        due("day 400", x.check(0, 400, 0), -2);
        due("n -1", x.check(0, 0, -1), -2);
        due("n far off", x.check(0, 0, 1 << 30), -2);
        due("the tape still stays", x.count(5), 20);
    }

    private static void count() {
        ScruffPaper x = new ScruffPaper();
        x.source(true, 0, 0, 0, 0);
        x.source(true, 0, 0, 0, 0);
        x.note(0, 0, 0);
        x.note(0, 0, 0);
        x.note(0, 0, 0);
        x.blip(7);
        for (int i = 0; i < 4; i++) {
            x.night(0, 0);
        }
        x.seed(77);
        Due.law(x, 1, "h1(1=1);h2(1=1)");
        Due.way(x, 3, "k(1=1);k(1=1);k(1=1)");
        Due.story(x, 4, "1");
        x.feed(0, 0, 0, 0, 0);
        int[] want = {2, 3, 1, 4, 77, 20};
        for (int what = 0; what < want.length; what++) {
            due("count " + what, x.count(what), want[what]);
        }
        due("source 0 has no law", x.count(10), 0);
        due("source 1", x.count(11), 2);
        due("no source 2", x.count(12), NONE);
        due("reader 0", x.count(20), 0);
        due("reader 3", x.count(23), 3);
        due("no reader 4", x.count(24), NONE);
        due("story 4", x.count(34), 1);
        due("story 5", x.count(35), 0);
        due("no story 6", x.count(36), NONE);
        due("what 6", x.count(6), NONE);
        due("what 9", x.count(9), NONE);
        due("what 19", x.count(19), NONE);
        due("what 29", x.count(29), NONE);
        due("what -1", x.count(-1), NONE);
        due("what far off", x.count(Integer.MAX_VALUE), NONE);
        due("what far off below", x.count(Integer.MIN_VALUE), NONE);
        for (int i = 2; i < 10; i++) {
            x.source(true, 0, 0, 0, 0);
        }
        due("source 9", x.count(19), 0);
    }
}
