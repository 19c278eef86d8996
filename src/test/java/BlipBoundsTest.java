/** Boundary cases of blips and beats (==== 4) and of promises 17 to 22, sentence by sentence. */
public final class BlipBoundsTest {
    private static final int NONE = ScruffPaper.NONE;
    private static final int NOTHING = -2;

    public static void main(String[] args) {
        fortyBlips();
        times();
        growing();
        beatsThatAre();
        errorsThatAre();
        twiceTheErrorBelowTheBeat();
        fewerThanTwoBlips();
        fitsOnAnArc();
        fitsRound();
        beatsFromTo();
        beatsTwoThousandApart();
        beatsFirstError();
        beatsWhat();
        countToTheNearest();
        countOfNoBlip();
        countGreatest();
        sureIfAllAlike();
        lostLeastN();
        lostNone();
        Due.end();
    }

    private static void due(String what, long got, long want) {
        Due.same(what, got, want);
    }

    private static ScruffPaper blips(int... times) {
        ScruffPaper x = new ScruffPaper();
        for (int time : times) {
            due("blip " + time, x.blip(time) >= 0 ? 1 : 0, 1);
        }
        return x;
    }

    /** "BLIPS 0 to 39"; "NONE: .. 40 are there." */
    private static void fortyBlips() {
        ScruffPaper x = new ScruffPaper();
        for (int i = 0; i < 40; i++) {
            due("blip " + i, x.blip(7 * i), i);
        }
        due("a 41st", x.blip(1000), NONE);
        due("40 are there", x.count(2), 40);
        due("the last one counts", x.counted(39, 7), 39);
        Bounds.refused("a 41st blip", NONE, Bounds::full, y -> y.blip(1000000));
    }

    /** "times (0 to 1000000000)"; "NONE: no such time". */
    private static void times() {
        due("time 0", Bounds.bare().blip(0), 0);
        due("time 1000000000", Bounds.bare().blip(1000000000), 0);
        Bounds.refused("time -1", NONE, x -> x.blip(-1));
        Bounds.refused("time 1000000001", NONE, x -> x.blip(1000000001));
        Bounds.refused("the least int", NONE, x -> x.blip(Integer.MIN_VALUE));
        Bounds.refused("the greatest int", NONE, x -> x.blip(Integer.MAX_VALUE));
        ScruffPaper x = new ScruffPaper();
        due("a time that is none", x.blip(1000000001), NONE);
        due("is not the one before", x.blip(0), 0);
    }

    /** "growing"; "NONE: .. not above the one before". */
    private static void growing() {
        ScruffPaper x = blips(5);
        due("the same", x.blip(5), NONE);
        due("one less", x.blip(4), NONE);
        due("one more", x.blip(6), 1);
        due("the first again", x.blip(5), NONE);
        Bounds.refused("the same time", NONE, Bounds::some, y -> y.blip(1000));
        Bounds.refused("one less", NONE, Bounds::some, y -> y.blip(999));
        Bounds.refused("time 0 again", NONE, Bounds::some, y -> y.blip(0));
        due("one more than the last", Bounds.some().blip(1001), 4);
        ScruffPaper last = blips(999999999, 1000000000);
        due("nothing behind the latest", last.blip(1000000000), NONE);
    }

    /** "A BEAT p (1 to 1000000)": of every call that takes one. */
    private static void beatsThatAre() {
        ScruffPaper x = blips(0, 1000000, 3000000);
        due("fits 1", x.fits(1, 0), 1);
        due("fits 1000000", x.fits(1000000, 0), 1);
        due("beats from 1", x.beats(1, 1, 0, 0), 1);
        due("beats to 1000000", x.beats(1000000, 1000000, 0, 2), 1000000);
        due("counted by 1", x.counted(2, 1), 3000000);
        due("counted by 1000000", x.counted(2, 1000000), 3);
        due("sure from 1", x.sure(1, 1, 0), 1);
        due("sure to 1000000", x.sure(999999, 1000000, 0), 1);
        due("lost from 1", x.lost(1, 2, 0), 1);
        due("lost to 1000000", x.lost(999999, 1000000, 1), NOTHING);
        noSuchBeat(0);
        noSuchBeat(-1);
        noSuchBeat(1000001);
        for (int far : Bounds.FAR) {
            noSuchBeat(far);
        }
        Bounds.refused("beats over 1000000", NONE, y -> y.beats(1000000, 1000001, 0, 0));
        Bounds.refused("beats from 0 to 1", NONE, y -> y.beats(0, 1, 0, 0));
        Bounds.refused("sure over 1000000", NONE, y -> y.sure(1000000, 1000001, 0));
        Bounds.refused("lost over 1000000", NONE, y -> y.lost(1000000, 1000001, 0));
    }

    private static void noSuchBeat(int p) {
        Bounds.refused("fits " + p, NONE, x -> x.fits(p, 0));
        Bounds.refused("beats " + p, NONE, x -> x.beats(p, p, 0, 0));
        Bounds.refused("beats from " + p, NONE, x -> x.beats(p, 100, 0, 0));
        Bounds.refused("beats to " + p, NONE, x -> x.beats(100, p, 0, 0));
        Bounds.refused("counted by " + p, NONE, x -> x.counted(0, p));
        Bounds.refused("sure " + p, NONE, x -> x.sure(p, p, 0));
        Bounds.refused("lost " + p, NONE, x -> x.lost(p, p, 0));
    }

    /** "an error e (0 to 1000 ..)". */
    private static void errorsThatAre() {
        ScruffPaper x = blips(0, 12000);
        due("fits, error 0", x.fits(6000, 0), 1);
        due("fits, error 0, one off", x.fits(5999, 0), 0);
        due("fits, error 1000", x.fits(5000, 1000), 1);
        due("fits, error 999", x.fits(5000, 999), 0);
        due("beats, error 1000", x.beats(5000, 5000, 1000, 0), 1);
        due("sure, error 1000", x.sure(5000, 5000, 1000), 1);
        due("lost, error 1000", x.lost(5000, 5001, 1000), 2500);
        int[] none = {-1, 1001, Integer.MIN_VALUE, Integer.MAX_VALUE, 1 << 30, Integer.MIN_VALUE / 2};
        for (int e : none) {
            Bounds.refused("fits, error " + e, NONE, y -> y.fits(100000, e));
            Bounds.refused("beats, error " + e, NONE, y -> y.beats(100000, 100001, e, 0));
            Bounds.refused("sure, error " + e, NONE, y -> y.sure(100000, 100001, e));
            Bounds.refused("lost, error " + e, NONE, y -> y.lost(100000, 100001, e));
        }
    }

    /** "2 e less than p". */
    private static void twiceTheErrorBelowTheBeat() {
        ScruffPaper x = blips(0, 3, 7, 9, 20);
        due("2 e is p less 1", x.fits(7, 3), 1);
        due("2 e is p less 2", x.fits(8, 3), 1);
        due("2 e is less than the arc", x.fits(8, 2), 0);
        due("e 0 of p 1", x.fits(1, 0), 1);
        due("e 1000 of p 2001", x.fits(2001, 1000), 1);
        Bounds.refused("2 e is p", NONE, y -> y.fits(6, 3));
        Bounds.refused("2 e is above p", NONE, y -> y.fits(5, 3));
        Bounds.refused("e 1000 of p 2000", NONE, y -> y.fits(2000, 1000));
        Bounds.refused("e 1 of p 1", NONE, y -> y.fits(1, 1));
        Bounds.refused("e 1 of p 2", NONE, y -> y.fits(2, 1));
    }

    /** "NONE: .. fewer than two BLIPS." */
    private static void fewerThanTwoBlips() {
        Bounds.refused("fits of none", NONE, Bounds::bare, x -> x.fits(5, 0));
        Bounds.refused("fits of one", NONE, () -> blips(7), x -> x.fits(5, 0));
        Bounds.refused("beats of none", NONE, Bounds::bare, x -> x.beats(1, 5, 0, 0));
        Bounds.refused("beats of one", NONE, () -> blips(7), x -> x.beats(1, 5, 0, 0));
        Bounds.refused("sure of none", NONE, Bounds::bare, x -> x.sure(1, 5, 0));
        Bounds.refused("sure of one", NONE, () -> blips(7), x -> x.sure(1, 5, 0));
        Bounds.refused("lost of none", NONE, Bounds::bare, x -> x.lost(1, 5, 0));
        Bounds.refused("lost of one", NONE, () -> blips(7), x -> x.lost(1, 5, 0));
        ScruffPaper x = blips(7, 12);
        due("fits of two", x.fits(5, 0), 1);
        due("beats of two", x.beats(1, 5, 0, 0), 2);
        due("sure of two", x.sure(5, 5, 0), 1);
        due("lost of two", x.lost(1, 5, 0), 1);
        due("counted needs one alone", blips(7).counted(0, 5), 0);
    }

    /** "if all times modulo p lie on some arc of 2 e (round)". */
    private static void fitsOnAnArc() {
        ScruffPaper x = blips(100, 208, 304);
        due("8 apart, error 4", x.fits(100, 4), 1);
        due("8 apart, error 3", x.fits(100, 3), 0);
        ScruffPaper odd = blips(100, 207, 304);
        due("7 apart, error 4", odd.fits(100, 4), 1);
        due("7 apart, error 3", odd.fits(100, 3), 0);
        due("alike, error 0", blips(100, 200, 900).fits(100, 0), 1);
        due("one off, error 0", blips(100, 200, 901).fits(100, 0), 0);
        due("one off, error 1", blips(100, 200, 901).fits(100, 1), 1);
        due("a beat above all times", blips(100, 200, 901).fits(1000000, 401), 1);
        due("a beat above all times, too far", blips(100, 200, 901).fits(1000000, 400), 0);
    }

    private static void fitsRound() {
        due("round", blips(98, 202).fits(100, 2), 1);
        due("round, too far", blips(98, 202).fits(100, 1), 0);
        due("round, three", blips(97, 200, 303).fits(100, 3), 1);
        due("round, three, too far", blips(97, 200, 303).fits(100, 2), 0);
        due("each two near, not all on one arc", blips(0, 104, 208).fits(12, 3), 0);
        due("a third of the beat each", blips(0, 4, 8).fits(12, 4), 1);
        due("all of the beat", blips(0, 1, 2, 3, 4, 5, 6, 7, 8, 9).fits(10, 4), 0);
        due("all of the beat but one", blips(0, 1, 2, 3, 4, 5, 6, 7, 8).fits(10, 4), 1);
        due("an arc one longer than 2 e", blips(0, 3, 6, 9).fits(10, 3), 0);
        due("late times", blips(999999001, 1000000000).fits(999, 0), 1);
    }

    /** "Over BEATS from one to another .. how many FIT, the least, the greatest": both ends count. */
    private static void beatsFromTo() {
        ScruffPaper x = blips(0, 100, 300);
        due("both ends", x.beats(50, 100, 0, 0), 2);
        due("least is the first", x.beats(50, 100, 0, 1), 50);
        due("greatest is the last", x.beats(50, 100, 0, 2), 100);
        due("not the first", x.beats(51, 100, 0, 0), 1);
        due("not the last", x.beats(50, 99, 0, 0), 1);
        due("neither", x.beats(51, 99, 0, 0), 0);
        due("neither, least", x.beats(51, 99, 0, 1), NONE);
        due("neither, greatest", x.beats(51, 99, 0, 2), NONE);
        due("one beat that fits", x.beats(100, 100, 0, 0), 1);
        due("one beat that does not", x.beats(99, 99, 0, 0), 0);
        Bounds.refused("from above to", NONE, y -> y.beats(100, 99, 0, 0));
        Bounds.refused("sure, from above to", NONE, y -> y.sure(100, 99, 0));
        Bounds.refused("lost, from above to", NONE, y -> y.lost(100, 99, 0));
    }

    /** "(2000 apart at most)". */
    private static void beatsTwoThousandApart() {
        ScruffPaper x = blips(0, 2001);
        due("1999 apart", x.beats(1, 2000, 0, 2), 667);
        due("2000 apart", x.beats(1, 2001, 0, 2), 2001);
        due("2000 apart, sure", x.sure(1, 2001, 0), 0);
        due("2000 apart, lost", x.lost(1, 2001, 0), 1);
        due("2000 apart, to the last beat", x.beats(998000, 1000000, 1000, 0), 0);
        Bounds.refused("2001 apart", NONE, y -> y.beats(1, 2002, 0, 0));
        Bounds.refused("2001 apart, sure", NONE, y -> y.sure(1, 2002, 0));
        Bounds.refused("2001 apart, lost", NONE, y -> y.lost(1, 2002, 0));
        Bounds.refused("2001 apart, to the last beat", NONE, y -> y.beats(997999, 1000000, 0, 0));
        Bounds.refused("all beats", NONE, y -> y.beats(1, 1000000, 0, 0));
    }

    /** "(2 e not below the first, too)". */
    private static void beatsFirstError() {
        ScruffPaper x = blips(0, 100, 300);
        due("2 e is one below the first", x.beats(21, 30, 10, 0), 10);
        due("2 e is one below the first, sure", x.sure(100, 100, 49), 1);
        due("2 e is one below the first, lost", x.lost(99, 100, 49), 50);
        due("error 1000 of the first 2001", x.beats(2001, 2001, 1000, 0), 1);
        Bounds.refused("2 e is the first", NONE, y -> y.beats(20, 30, 10, 0));
        Bounds.refused("2 e is the first, sure", NONE, y -> y.sure(20, 30, 10));
        Bounds.refused("2 e is the first, lost", NONE, y -> y.lost(20, 30, 10));
        Bounds.refused("2 e is above the first, below the last", NONE, y -> y.beats(10, 30, 10, 0));
        Bounds.refused("error 1000 of the first 2000", NONE, y -> y.beats(2000, 2001, 1000, 0));
    }

    /** "what 0 how many FIT, 1 the least, 2 the greatest (NONE: none); NONE: no such ones". */
    private static void beatsWhat() {
        Bounds.refused("beats what -1", NONE, y -> y.beats(95, 105, 10, -1));
        Bounds.refused("beats what 3", NONE, y -> y.beats(95, 105, 10, 3));
        for (int far : Bounds.FAR) {
            Bounds.refused("beats what " + far, NONE, y -> y.beats(95, 105, 10, far));
        }
    }

    /** "time less that of BLIP 0, through p, to the nearest (of two the greater)". */
    private static void countToTheNearest() {
        ScruffPaper x = blips(1000, 1004, 1005, 1006, 1014, 1015, 1016);
        int[] byTen = {0, 0, 1, 1, 1, 2, 2};
        for (int i = 0; i < byTen.length; i++) {
            due("by 10, blip " + i, x.counted(i, 10), byTen[i]);
        }
        int[] byNine = {0, 0, 1, 1, 2, 2, 2};
        for (int i = 0; i < byNine.length; i++) {
            due("by 9, blip " + i, x.counted(i, 9), byNine[i]);
        }
        due("by 1", x.counted(6, 1), 16);
        due("by twice the time: half a beat is one", x.counted(6, 32), 1);
        due("by one more: none", x.counted(6, 33), 0);
        due("by 31", x.counted(6, 31), 1);
    }

    /** "THE COUNT of BLIP i by a BEAT; NONE: no such ones." */
    private static void countOfNoBlip() {
        due("the last of four", Bounds.some().counted(3, 1), 900);
        Bounds.refused("blip 4 of four", NONE, Bounds::some, x -> x.counted(4, 1));
        Bounds.refused("blip 0 of none", NONE, Bounds::bare, x -> x.counted(0, 1));
        Bounds.refused("blip -1", NONE, x -> x.counted(-1, 1));
        Bounds.refused("blip 40", NONE, x -> x.counted(40, 1));
        for (int far : Bounds.FAR) {
            Bounds.refused("blip " + far, NONE, x -> x.counted(far, 1));
        }
    }

    private static void countGreatest() {
        ScruffPaper x = blips(0, 1000000000);
        due("a thousand million", x.counted(1, 1), 1000000000);
        due("by 2", x.counted(1, 2), 500000000);
        due("by 3", x.counted(1, 3), 333333333);
        due("by 1000000", x.counted(1, 1000000), 1000);
        due("blip 0 by 1000000", x.counted(0, 1000000), 0);
    }

    /** "SURE: if all BEATS that FIT count all BLIPS alike"; "-2: none FITS". */
    private static void sureIfAllAlike() {
        ScruffPaper x = blips(0, 1000);
        due("none fits", x.sure(999, 999, 0), NOTHING);
        due("one fits", x.sure(1000, 1000, 0), 1);
        due("two fit, not alike", x.sure(500, 1000, 0), 0);
        ScruffPaper y = blips(0, 100, 1000);
        due("99 to 101 alike", y.sure(99, 101, 5), 1);
        due("three fit", y.beats(99, 101, 5, 0), 3);
        ScruffPaper last = blips(0, 100, 20000);
        due("they differ at the last blip alone", last.sure(100, 101, 49), 0);
        due("both fit", last.beats(100, 101, 49, 0), 2);
        due("they are alike at the one before", last.counted(1, 101), last.counted(1, 100));
        due("40 blips", Bounds.full().sure(1000, 1000, 0), 1);
    }

    /** "the least n for which n times their difference, twice, is not below the least". */
    private static void lostLeastN() {
        due("just half a beat", blips(0, 10000).lost(100, 125, 0), 2);
        due("99 to 101", blips(0, 100, 1000).lost(99, 101, 5), 25);
        due("rounded up", blips(0, 101 * 102).lost(101, 102, 0), 51);
        due("an even one", blips(0, 100 * 101).lost(100, 101, 0), 50);
        due("half at once", blips(0, 1000).lost(500, 1000, 0), 1);
        due("more than half at once", blips(0, 1000).lost(1, 1000, 0), 1);
        due("the longest", blips(0, 1).lost(999999, 1000000, 1), 500000);
        due("the longest but one", blips(0, 1).lost(999998, 999999, 1), 499999);
    }

    /** "(none if one alone FITS)"; "-2: one alone FITS, or none". */
    private static void lostNone() {
        ScruffPaper x = blips(0, 100, 300);
        due("none fits", x.lost(51, 99, 0), NOTHING);
        due("one alone fits, the first", x.lost(50, 99, 0), NOTHING);
        due("one alone fits, the last", x.lost(51, 100, 0), NOTHING);
        due("two fit", x.lost(50, 100, 0), 1);
        due("one beat", x.lost(100, 100, 0), NOTHING);
    }
}
