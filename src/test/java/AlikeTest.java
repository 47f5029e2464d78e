/** Promises 17 to 22, and the terms of part 3: alike ones and forgers. */
public final class AlikeTest {
    private static final Checks C = new Checks("AlikeTest");
    private static final String THREE = "p000000000;f340000000;s900000000";
    private static final int[] NO_SHEET = {-1, 4, Checks.LEAST, Checks.MOST};
    private static final int[] NO_LANE = {-1, 3, Checks.LEAST, Checks.MOST};
    private static final int[] NO_SIGN = {-1, 3, Checks.LEAST, Checks.MOST};
    private static final int[] NO_SMELL = {-1, 9, Checks.LEAST, Checks.MOST};

    public static void main(String[] args) {
        C.run(AlikeTest.class);
    }

    // ---- the terms: APART, TWINS

    /**
     * Term APART: "APART of two SIGNS: for all SMELLS how far STRENGTHS are, summed up":
     * from the first to the last, more and less.
     */
    static void apartForAllSmells() {
        NineSmells x = Checks.registered("p900000001;f190000000;s000000000;p999999999;p123456789");
        C.due("8, 9 and 1", x.apart(0, 1), 18);
        C.due("the other way", x.apart(1, 0), 18);
        C.due("9 and 1", x.apart(0, 2), 10);
        C.due("the most", x.apart(2, 3), 81);
        C.due("1 to 9", x.apart(4, 2), 45);
        C.due("8 to 0", x.apart(4, 3), 36);
    }

    /** Term TWINS: "TWINS: PAIRS that are APART no more than BOUND by 8.": as much, but not one more. */
    static void twinsAsFarAsBound() {
        NineSmells x = Checks.registered("p100000000;f200000000;s900000000;p800000000");
        // APART: 01 1, 02 8, 03 7, 12 7, 13 6, 23 1.
        int[] bounds = {0, 7, 8, 47, 48, 55, 56, 63, 64, 999};
        int[] want = {0, 0, 2, 2, 3, 3, 5, 5, 6, 6};
        for (int k = 0; k < bounds.length; k++) {
            x.bound(bounds[k]);
            C.due("BOUND " + bounds[k], x.twins(-1), want[k]);
        }
    }

    /** Term TWINS: "APART no more than BOUND by 8": as far as SIGNS can be, 81. */
    static void twinsAsFarAsCanBe() {
        NineSmells x = Checks.registered("p999999999;p000000000");
        C.due("APART", x.apart(1, 0), 81);
        x.bound(647);
        C.due("BOUND 647", x.twins(-1), 0);
        C.due("steals at BOUND 647: 1 hour is cut to nothing", x.steals(0, 1), 2);
        x.bound(648);
        C.due("BOUND 648", x.twins(-1), 1);
        C.due("steals at BOUND 648", x.steals(0, 1), 0);
    }

    /** Term TWINS: "APART no more than BOUND by 8": at BOUND 0 those that smell alike. */
    static void twinsAtBound0() {
        NineSmells x = Checks.registered("p123400000;f123400000;s123400000;p123500000");
        x.bound(0);
        C.due("three PAIRS", x.twins(-1), 3);
        C.due("the last", x.twins(2), 12);
        C.due("no fourth", x.twins(3), -9);
    }

    // ---- the terms: FORGED

    /** Two STOPPERS in sheet 0 as bytes: 3 of SMELL 0, 4 of SMELL 1. */
    private static NineSmells withTwoStoppers() {
        NineSmells x = Checks.registered(THREE);
        x.bound(0);
        Checks.row(x, 0, 0, 0, 3, 1, 4);
        return x;
    }

    /** Term FORGED: "a set of STOPPERS by which 8 times APART (STRENGTHS with what is more) is no more than BOUND". */
    static void forgedAsFarAsBound() {
        NineSmells x = withTwoStoppers();
        C.dueFault(x, "APART 0", x.forged(0, 1, 0, 0, 0, 2), 3);
        x.bound(23);
        C.dueFault(x, "APART 3 is too much", x.forged(0, 1, 0, 0, 0, 2), 3);
        x.bound(24);
        C.dueFault(x, "APART 3, by the second", x.forged(0, 1, 0, 0, 0, 2), 2);
        x.bound(31);
        C.dueFault(x, "APART 4 is too much", x.forged(0, 1, 0, 0, 0, 1), -9);
        x.bound(32);
        C.dueFault(x, "APART 4, by the first", x.forged(0, 1, 0, 0, 0, 2), 1);
    }

    /** Term FORGED: "for another one: a set of STOPPERS": of none, if it is alike without. */
    static void forgedByNone() {
        NineSmells x = withTwoStoppers();
        x.bound(55);
        C.dueFault(x, "APART 7 is too much", x.forged(0, 1, 0, 0, 0, 0), -9);
        x.bound(56);
        C.dueFault(x, "APART 7", x.forged(0, 1, 0, 0, 0, 0), 0);
        C.dueFault(x, "though there are some", x.forged(0, 1, 0, 0, 0, 2), 0);
        C.dueFault(x, "none, at the end", x.forged(0, 1, 0, 0, 4, 0), 0);
    }

    /**
     * Term FORGED: "FORGED: a SIGN with STOPPERS (each a SMELL and how much more, 1 .. 9; n of them, 0 to 10)":
     * ten of them, SMELLS 0 and 8, 1 and 9 more.
     */
    static void tenStoppers() {
        NineSmells x = Checks.registered("p000000000;f900000009");
        x.bound(0);
        Checks.row(x, 1, 2, 0, 1, 1, 1, 2, 1, 3, 1, 4, 1, 5, 1, 6, 1, 7, 1, 8, 9, 0, 9);
        C.dueFault(x, "by the last two", x.forged(0, 1, 1, 2, 0, 10), 256 + 512);
        C.dueFault(x, "without the last", x.forged(0, 1, 1, 2, 0, 9), -9);
        x.bound(72);
        C.dueFault(x, "without the last, by more BOUND", x.forged(0, 1, 1, 2, 0, 9), 256);
    }

    /** Term FORGED: "(STRENGTHS with what is more)": of one SMELL by all of them. */
    static void stoppersAddUp() {
        NineSmells x = Checks.registered("p900000000;p990000000;p000000000");
        x.bound(0);
        Checks.row(x, 0, 0, 1, 4, 1, 5, 1, 9);
        C.dueFault(x, "4 and 5 are 9", x.forged(0, 1, 0, 0, 0, 2), 3);
        C.dueFault(x, "9 is 9", x.forged(0, 1, 0, 0, 0, 3), 4);
        C.dueFault(x, "they only add", x.forged(1, 0, 0, 0, 0, 3), -9);
    }

    /** Term FORGED: "(STRENGTHS with what is more)", which may be above 9. */
    static void stoppersAddUpAbove9() {
        NineSmells x = Checks.registered("p500000000;p900000000");
        Checks.row(x, 0, 0, 0, 9, 0, 2, 0, 3);
        x.bound(0);
        C.dueFault(x, "14 is not 9", x.forged(0, 1, 0, 0, 0, 1), -9);
        C.dueFault(x, "10 is not 9", x.forged(0, 1, 0, 0, 2, 2), -9);
        x.bound(8);
        C.dueFault(x, "8 is as near as 10, and of fewer", x.forged(0, 1, 0, 0, 2, 2), 2);
        x.bound(31);
        C.dueFault(x, "14 is farther than 5", x.forged(0, 1, 0, 0, 0, 1), -9);
        x.bound(32);
        C.dueFault(x, "5 itself", x.forged(0, 1, 0, 0, 0, 1), 0);
    }

    /** Term FORGED: "the one of the fewest": two of greater numbers ahead of three of lesser ones. */
    static void forgedByTheFewest() {
        NineSmells x = Checks.registered("p000000000;f900000000");
        x.bound(0);
        Checks.row(x, 1, 2, 0, 1, 0, 1, 0, 1, 0, 1, 0, 1, 0, 1, 0, 1, 0, 1, 0, 1, 0, 9);
        C.dueFault(x, "nine, or one at the end", x.forged(0, 1, 1, 2, 0, 10), 512);
        C.dueFault(x, "nine", x.forged(0, 1, 1, 2, 0, 9), 511);
        C.dueFault(x, "eight", x.forged(0, 1, 1, 2, 0, 8), -9);
        Checks.row(x, 1, 2, 0, 2, 0, 3, 0, 4, 0, 4, 0, 5);
        C.dueFault(x, "2, 3 and 4, or 4 and 5", x.forged(0, 1, 1, 2, 0, 5), 4 + 16);
        C.dueFault(x, "2, 3 and 4", x.forged(0, 1, 1, 2, 0, 3), 1 + 2 + 4);
    }

    /** Term FORGED: "of several the least as bits". */
    static void forgedOfSeveral() {
        NineSmells x = Checks.registered("p000000000;f900000000");
        x.bound(0);
        Checks.row(x, 1, 2, 0, 1, 0, 2, 0, 3, 0, 4, 0, 5, 0, 6, 0, 4, 0, 5, 0, 8, 0, 1);
        C.dueFault(x, "3 and 6, 4 and 5, 1 and 8 ..", x.forged(0, 1, 1, 2, 0, 10), 8 + 16);
        C.dueFault(x, "from the second on", x.forged(0, 1, 1, 2, 2, 9), 4 + 8);
        Checks.row(x, 1, 2, 0, 9, 0, 9, 0, 9);
        C.dueFault(x, "each of three", x.forged(0, 1, 1, 2, 0, 3), 1);
        C.dueFault(x, "each of two", x.forged(0, 1, 1, 2, 2, 2), 1);
    }

    // ---- the terms: NEAR, STEALS

    /** Term NEAR: "STRENGTH becomes more by what the other's is more, times h by 10", cut. */
    static void nearBecomesMore() {
        NineSmells x = Checks.registered("p000000003;f790000005");
        int[] seven = {0, 0, 1, 2, 2, 3, 4, 4, 5, 6, 7};
        int[] nine = {0, 0, 1, 2, 3, 4, 5, 6, 7, 8, 9};
        int[] two = {3, 3, 3, 3, 3, 4, 4, 4, 4, 4, 5};
        for (int h = 0; h <= 10; h++) {
            C.due("by 7, " + h, x.near(0, 1, h, 0), seven[h]);
            C.due("by 9, " + h, x.near(0, 1, h, 1), nine[h]);
            C.due("by 2, " + h, x.near(0, 1, h, 8), two[h]);
            C.due("by 0, " + h, x.near(0, 1, h, 4), 0);
        }
    }

    /** Term NEAR: "(below 0: less; cut towards 0)". */
    static void nearBecomesLess() {
        NineSmells x = Checks.registered("p790000005;f000000003");
        int[] seven = {7, 7, 6, 5, 5, 4, 3, 3, 2, 1, 0};
        int[] nine = {9, 9, 8, 7, 6, 5, 4, 3, 2, 1, 0};
        int[] two = {5, 5, 5, 5, 5, 4, 4, 4, 4, 4, 3};
        for (int h = 0; h <= 10; h++) {
            C.due("by 7, " + h, x.near(0, 1, h, 0), seven[h]);
            C.due("by 9, " + h, x.near(0, 1, h, 1), nine[h]);
            C.due("by 2, " + h, x.near(0, 1, h, 8), two[h]);
        }
    }

    /**
     * Term NEAR: "NEAR for h hours (0 .. 10) a SIGN smells of another one": in none it is itself, in ten the other
     * one.
     */
    static void nearFromNoneToTen() {
        NineSmells x = Checks.registered("p123456789;f987654321");
        for (int smell = 0; smell <= 8; smell++) {
            C.due("none, " + smell, x.near(0, 1, 0, smell), smell + 1);
            C.due("ten, " + smell, x.near(0, 1, 10, smell), 9 - smell);
            C.due("of itself, " + smell, x.near(1, 1, 7, smell), 9 - smell);
        }
    }

    /**
     * Term STEALS: "STEALS: the least h by which 8 times APART is no more than BOUND then": as much, but not one
     * more.
     */
    static void stealsAsFarAsBound() {
        NineSmells x = Checks.registered("p900000005;f070000005");
        // APART 16 by hours 0 and 1, then 14 ..
        int[] apart = {16, 16, 14, 12, 11, 9, 7, 6, 4, 2, 0};
        for (int h = 2; h <= 10; h++) {
            x.bound(8 * apart[h]);
            C.due("as far as BOUND, " + h, x.steals(0, 1), h);
            x.bound(8 * apart[h - 1] - 1);
            C.due("one less than an hour ago, " + h, x.steals(0, 1), h);
        }
    }

    /** Term STEALS: "the least h": 0, if it is alike at once; 10 at the most. */
    static void stealsFromNoneToTen() {
        NineSmells x = Checks.registered("p900000005;f070000005;s930000005");
        x.bound(128);
        C.due("at once, as far as BOUND", x.steals(0, 1), 0);
        x.bound(127);
        C.due("not at once", x.steals(0, 1), 2);
        x.bound(0);
        C.due("in the end", x.steals(1, 2), 10);
        NineSmells same = Checks.registered("p123456789;s123456789");
        same.bound(0);
        C.due("alike ones", same.steals(0, 1), 0);
    }

    // ---- the terms: a new smell

    private static void dueFresh(NineSmells x, String text, int... want) {
        for (int what = 0; what <= 4; what++) {
            C.due("fresh(" + what + ") of " + text, x.fresh(what), want[what]);
        }
    }

    private static void dueFreshOf(String text, int... want) {
        dueFresh(Checks.registered(text), text, want);
    }

    /**
     * Term A NEW SMELL: "A NEW SMELL: two SMELLS (the first one the lesser), strong by u and v (0 .. 9), all else 0".
     */
    static void newSmellFromNoneToMost() {
        // Far from all by what they lack, or by all that they have.
        dueFreshOf("p999999900;f999999900", 81, 7, 8, 9, 9);
        dueFreshOf("p999999990;s999999990", 81, 0, 8, 0, 9);
        dueFreshOf("p099999999;s099999999", 81, 0, 1, 9, 0);
        dueFreshOf("p999999999;s999999999", 81, 0, 1, 0, 0);
        dueFreshOf("p000000999;p000009990", 45, 0, 1, 9, 9);
    }

    /** Term A NEW SMELL: "the one that is the farthest APART from the SIGN that is the least APART from it". */
    static void newSmellFarFromTheNearest() {
        // u + v from the one, 81 less that from the other.
        dueFreshOf("p000000000;p999999999", 18, 0, 1, 9, 9);
        // 1 and 3 with 9 and 9 are 27 from each; 0 and 1 only 9 from the first.
        dueFreshOf("p900000000;s009000000", 27, 1, 3, 9, 9);
        // 0 and 1 are 18 from two of them, and the third one itself.
        dueFreshOf("p000000000;p000000000;p990000000", 18, 0, 2, 9, 9);
    }

    /** Term A NEW SMELL: "of several the first by SMELLS, u, v". */
    static void newSmellOfSeveral() {
        // 0 and 1 to 0 and 7 are there; 0 and 8 are 18 from all, as are 1 and 2.
        dueFreshOf("p000000000;p990000000;p909000000;p900900000;p900090000;p900009000;p900000900;p900000090",
            18, 0, 8, 9, 9);
        // 0 and 1 are the first one; 0 and 2 are 18 from both, as are all behind them.
        dueFreshOf("p990000000;p000000000", 18, 0, 2, 9, 9);
    }

    /**
     * Term A NEW SMELL: "of several the first by SMELLS, u, v": the least u, then the least v, of one PAIR of SMELLS.
     */
    static void newSmellOfSeveralStrengths() {
        // From 4 the farthest is 9, from 5 it is 0: 5 more each than the seven others of 5.
        dueFreshOf("p455555555;p455555555", 45, 0, 1, 9, 0);
        dueFreshOf("p545555555;p545555555", 45, 0, 1, 0, 9);
        dueFreshOf("p555555555;p555555555", 45, 0, 1, 0, 0);
        // With 0 and 0, and with 9 and 9, it is 9 and seven of 9 from each.
        dueFreshOf("p909999999;p099999999", 72, 0, 1, 0, 0);
        // With 0 and 9, 1 and 8 .. 9 and 0 it is 9 and seven of 5 from each.
        dueFreshOf("p005555555;p995555555", 44, 0, 1, 0, 9);
    }

    // ---- apart, twins

    /** Promise 17: "APART.", of one SIGN too. */
    static void apart() {
        NineSmells x = Checks.registered(THREE);
        C.due("apart(0, 1)", x.apart(0, 1), 7);
        C.due("apart(1, 2)", x.apart(1, 2), 10);
        for (int sign = 0; sign <= 2; sign++) {
            C.due("apart of one, " + sign, x.apart(sign, sign), 0);
        }
    }

    /** Promise 17: "UNKNOWN: SIGNS". */
    static void apartUnknown() {
        NineSmells x = Checks.registered(THREE);
        for (int sign : NO_SIGN) {
            C.due("apart(" + sign + ", 0)", x.apart(sign, 0), -1);
            C.due("apart(0, " + sign + ")", x.apart(0, sign), -1);
            C.due("apart(" + sign + ", " + sign + ")", x.apart(sign, sign), -1);
        }
    }

    /** Promise 18: "TWINS: how many (k -1)": of none, and of all 28 PAIRS of eight. */
    static void twinsHowMany() {
        NineSmells x = Checks.registered("p000000000;p000000000;f000000000;s000000000;"
            + "p000000000;p000000000;f000000000;s000000000");
        C.due("all", x.twins(-1), 28);
        NineSmells y = Checks.registered("p000000000;p999999999");
        C.due("none", y.twins(-1), 0);
        C.due("without a REGISTER", new NineSmells().twins(-1), 0);
    }

    /** Promise 18: "the k-th, in order, as 10 times its first and its second SIGN": from 0 on, 1 for 0 and 1. */
    static void twinsInOrder() {
        NineSmells x = Checks.registered("p100000000;f200000000;s900000000;p800000000");
        x.bound(56);
        int[] want = {1, 3, 12, 13, 23};
        for (int k = 0; k < want.length; k++) {
            C.due("twins(" + k + ")", x.twins(k), want[k]);
        }
        NineSmells y = Checks.registered("p000000000;p000000000;f000000000;s000000000;"
            + "p000000000;p000000000;f000000000;s000000000");
        C.due("the first of 28", y.twins(0), 1);
        C.due("the seventh", y.twins(6), 7);
        C.due("the eighth", y.twins(7), 12);
        C.due("the last", y.twins(27), 67);
    }

    /** Promise 18: "NONE: there are fewer". */
    static void twinsFewer() {
        NineSmells x = Checks.registered("p100000000;f200000000;s900000000;p800000000");
        C.due("the second of two", x.twins(1), 23);
        C.due("the third of two", x.twins(2), -9);
        C.due("the most", x.twins(Checks.MOST), -9);
        x.bound(7);
        C.due("the first of none", x.twins(0), -9);
        C.due("without a REGISTER", new NineSmells().twins(0), -9);
    }

    /** Promise 18: "UNKNOWN: k below -1". */
    static void twinsUnknown() {
        NineSmells x = Checks.registered(THREE);
        for (int k : new int[] {-2, -9, Checks.LEAST}) {
            C.due("twins(" + k + ")", x.twins(k), -1);
            C.due("twins(" + k + ") of none", new NineSmells().twins(k), -1);
        }
    }

    // ---- forged

    /** Promise 19: "FORGED x for y, by STOPPERS of 2 n cells: the set": those from i on, and no others. */
    static void forged() {
        NineSmells x = Checks.registered(THREE);
        x.bound(0);
        for (int lane = 0; lane <= 2; lane++) {
            Checks.row(x, lane, lane, 7, 0, 3, 1, 4, 0, 2, 0, 1, 1, 3);
            C.dueFault(x, "3 and 4, lane " + lane, x.forged(0, 1, lane, lane, 1, 2), 3);
            C.dueFault(x, "2, 1 and 4", x.forged(0, 1, lane, lane, 3, 3), 1 + 2 + 4);
            C.dueFault(x, "2 and 1", x.forged(0, 1, lane, lane, 5, 2), -9);
        }
        C.dueFault(x, "1 is not forged for 0", x.forged(1, 0, 0, 0, 1, 2), -9);
    }

    /** Promise 19: "NONE: by none". */
    static void forgedNone() {
        NineSmells x = withTwoStoppers();
        C.dueFault(x, "by one of two", x.forged(0, 1, 0, 0, 0, 1), -9);
        C.dueFault(x, "by none of none", x.forged(0, 1, 0, 0, 0, 0), -9);
        C.dueFault(x, "another one", x.forged(2, 1, 0, 0, 0, 2), -9);
    }

    /** Promise 19: "UNKNOWN: SIGNS", ahead of all others. */
    static void forgedOfNoSign() {
        NineSmells x = Checks.faulted(THREE);
        for (int sign : NO_SIGN) {
            C.dueFault(x, "first " + sign, x.forged(sign, 1, 0, 0, 0, 1), -1);
            C.dueFault(x, "second " + sign, x.forged(0, sign, 0, 0, 0, 1), -1);
            C.dueFault(x, "first " + sign + ", lane too", x.forged(sign, 1, 0, 3, -1, -1), -1);
            C.dueFault(x, "second " + sign + ", CAST too", x.forged(0, sign, 0, 1, -1, -1), -1);
            C.dueFault(x, "first " + sign + ", nothing too", x.forged(sign, 1, 1, 0, 0, 1), -1);
        }
    }

    /** Promise 19: "they are one", ahead of all but SIGNS. */
    static void forgedOfOne() {
        NineSmells x = Checks.faulted(THREE);
        for (int sign = 0; sign <= 2; sign++) {
            C.dueFault(x, "one, " + sign, x.forged(sign, sign, 0, 0, 0, 0), -1);
            C.dueFault(x, "one, " + sign + ", lane too", x.forged(sign, sign, 0, 3, -1, -1), -1);
            C.dueFault(x, "one, " + sign + ", CAST too", x.forged(sign, sign, 0, 1, -1, -1), -1);
        }
    }

    /** Promise 19: "SHEET;": UNKNOWN, ahead of OUTSIDE. */
    static void forgedOfNoSheet() {
        NineSmells x = Checks.faulted(THREE);
        for (int k : NO_SHEET) {
            C.dueFault(x, "sheet " + k, x.forged(0, 1, k, 0, 0, 0), -1);
            C.dueFault(x, "sheet " + k + ", lane too", x.forged(0, 1, k, 3, -1, -1), -1);
        }
    }

    /** Promise 19: "OUTSIDE: lane", ahead of all FAULTS. */
    static void forgedOfNoLane() {
        NineSmells x = Checks.faulted(THREE);
        for (int lane : NO_LANE) {
            C.dueFault(x, "lane " + lane, x.forged(0, 1, 0, lane, 0, 0), -2);
            C.dueFault(x, "lane " + lane + ", SIZE and INDEX too", x.forged(0, 1, 0, lane, -1, -1), -2);
            C.dueFault(x, "lane " + lane + ", nothing too", x.forged(0, 1, 1, lane, 0, 0), -2);
        }
    }

    /** Promise 19: "CAST", ahead of SIZE, INDEX and OUTSIDE; nothing is no CAST. */
    static void forgedOfAnotherLane() {
        NineSmells x = Checks.registered(THREE);
        for (int has = 0; has <= 2; has++) {
            Checks.row(x, has, has, 0, 3, 1, 4);
            for (int lane = 0; lane <= 2; lane++) {
                int want = lane == has ? 0 : Checks.CAST;
                C.dueFault(x, has + " as " + lane, Math.min(0, x.forged(0, 1, has, lane, 0, 2)), want);
            }
        }
        C.dueFault(x, "SIZE too", x.forged(0, 1, 0, 1, 0, -1), Checks.CAST);
        C.dueFault(x, "INDEX too", x.forged(0, 1, 0, 1, 0, 3), Checks.CAST);
        C.dueFault(x, "OUTSIDE too", x.forged(0, 1, 0, 1, 1, 1), Checks.CAST);
        x.lose(0);
        C.dueFault(x, "it has nothing now", x.forged(0, 1, 0, 1, 0, 2), Checks.NULL);
    }

    /** Promise 19: "NULL", ahead of SIZE, INDEX and OUTSIDE. */
    static void forgedOfNothing() {
        NineSmells x = Checks.registered(THREE);
        C.dueFault(x, "nothing", x.forged(0, 1, 0, 0, 0, 1), Checks.NULL);
        C.dueFault(x, "none of nothing", x.forged(0, 1, 0, 0, 0, 0), Checks.NULL);
        C.dueFault(x, "SIZE too", x.forged(0, 1, 0, 0, 0, -1), Checks.NULL);
        C.dueFault(x, "INDEX too", x.forged(0, 1, 0, 0, -1, 1), Checks.NULL);
        C.dueFault(x, "n 11 too", x.forged(0, 1, 0, 0, 0, 11), Checks.NULL);
    }

    /** Promise 19: "SIZE", ahead of INDEX: n below 0. */
    static void forgedOfSizeBelow0() {
        NineSmells x = withTwoStoppers();
        for (int n : new int[] {-1, -2, Checks.LEAST / 2, Checks.LEAST / 2 - 1, Checks.LEAST}) {
            C.dueFault(x, "n " + n, x.forged(0, 1, 0, 0, 0, n), Checks.SIZE);
            C.dueFault(x, "i -1, n " + n, x.forged(0, 1, 0, 0, -1, n), Checks.SIZE);
            C.dueFault(x, "i 5, n " + n, x.forged(0, 1, 0, 0, 5, n), Checks.SIZE);
        }
    }

    /** Promise 19: "INDEX: 2 n cells", ahead of OUTSIDE. */
    static void forgedBeyond() {
        NineSmells x = withTwoStoppers();
        C.dueFault(x, "i -1", x.forged(0, 1, 0, 0, -1, 1), Checks.INDEX);
        C.dueFault(x, "n 3", x.forged(0, 1, 0, 0, 0, 3), Checks.INDEX);
        C.dueFault(x, "half of the last one", x.forged(0, 1, 0, 0, 1, 2), Checks.INDEX);
        C.dueFault(x, "i 2, n 1", x.forged(0, 1, 0, 0, 2, 1), -9);
        C.dueFault(x, "i 3, n 1", x.forged(0, 1, 0, 0, 3, 1), Checks.INDEX);
        C.dueFault(x, "n 11", x.forged(0, 1, 0, 0, 0, 11), Checks.INDEX);
        x.put(0, 0, 9);
        C.dueFault(x, "n 3, SMELL 9", x.forged(0, 1, 0, 0, 0, 3), Checks.INDEX);
    }

    /** Promise 19: "INDEX: 2 n cells", if none is taken. */
    static void forgedOfNoneBeyond() {
        NineSmells x = withTwoStoppers();
        C.dueFault(x, "i -1", x.forged(0, 1, 0, 0, -1, 0), Checks.INDEX);
        C.dueFault(x, "i 0", x.forged(0, 1, 0, 0, 0, 0), -9);
        C.dueFault(x, "i 4", x.forged(0, 1, 0, 0, 4, 0), -9);
        C.dueFault(x, "i 5", x.forged(0, 1, 0, 0, 5, 0), Checks.INDEX);
        C.dueFault(x, "i least", x.forged(0, 1, 0, 0, Checks.LEAST, 0), Checks.INDEX);
        C.dueFault(x, "i most", x.forged(0, 1, 0, 0, Checks.MOST, 0), Checks.INDEX);
    }

    /** Promise 19: "INDEX: 2 n cells", where twice n, or i and that, wrap around. */
    static void forgedWrapsNoIndex() {
        NineSmells x = withTwoStoppers();
        int wrapsTo0 = 1 << 30;
        C.dueFault(x, "twice n is least", x.forged(0, 1, 0, 0, 0, wrapsTo0), Checks.INDEX);
        C.dueFault(x, "twice n is 2 more", x.forged(0, 1, 0, 0, 0, wrapsTo0 + 1), Checks.INDEX);
        C.dueFault(x, "n most", x.forged(0, 1, 0, 0, 0, Checks.MOST), Checks.INDEX);
        C.dueFault(x, "i and twice n", x.forged(0, 1, 0, 0, 2, wrapsTo0 - 1), Checks.INDEX);
        C.dueFault(x, "i most", x.forged(0, 1, 0, 0, Checks.MOST, 1), Checks.INDEX);
        C.dueFault(x, "i and n most", x.forged(0, 1, 0, 0, Checks.MOST, Checks.MOST), Checks.INDEX);
    }

    /** Promise 19: "OUTSIDE: n": ten are taken, eleven are not. */
    static void forgedByTooMany() {
        NineSmells x = Checks.registered(THREE);
        Checks.row(x, 0, 2, 0, 1, 0, 1, 0, 1, 0, 1, 0, 1, 0, 1, 0, 1, 0, 1, 0, 1, 0, 1, 0, 1);
        C.dueFault(x, "ten", x.forged(0, 2, 0, 2, 0, 10), 15);
        C.dueFault(x, "eleven", x.forged(0, 2, 0, 2, 0, 11), -2);
        x.sheet(0, 2, 90);
        C.dueFault(x, "45", x.forged(0, 2, 0, 2, 0, 45), -2);
        C.dueFault(x, "46", x.forged(0, 2, 0, 2, 0, 46), Checks.INDEX);
    }

    /** Promise 19: "a SMELL": OUTSIDE, of any STOPPER, even if it takes none. */
    static void forgedByNoSmell() {
        NineSmells x = Checks.registered(THREE);
        x.bound(0);
        Checks.row(x, 0, 2, 0, 1, 0, 1, 0, 1, 8, 1);
        C.dueFault(x, "SMELLS 0 and 8", x.forged(0, 1, 0, 2, 0, 4), -9);
        for (int smell : new int[] {-1, 9, 256, Checks.LEAST, Checks.MOST}) {
            for (int stopper = 0; stopper < 4; stopper++) {
                x.put(0, 2 * stopper, smell);
                C.dueFault(x, smell + " of " + stopper, x.forged(0, 1, 0, 2, 0, 4), -2);
                C.dueFault(x, "not taken", x.forged(0, 1, 0, 2, 0, stopper), -9);
                x.put(0, 2 * stopper, 0);
            }
        }
        x.put(0, 0, 9);
        x.bound(999);
        C.dueFault(x, "alike without", x.forged(0, 1, 0, 2, 0, 1), -2);
    }

    /** Promise 19: "OUTSIDE: n, a SMELL", of the cells from i on, whatever stands ahead of them and behind them. */
    static void forgedByNoSmellFromThereOn() {
        NineSmells x = Checks.registered(THREE);
        x.bound(0);
        Checks.row(x, 0, 2, 9, 0, 1, 8, 1, 9, 1);
        C.dueFault(x, "from 1", x.forged(0, 1, 0, 2, 1, 2), -9);
        C.dueFault(x, "from 0", x.forged(0, 1, 0, 2, 0, 2), -2);
        C.dueFault(x, "from 3", x.forged(0, 1, 0, 2, 3, 2), -2);
        C.dueFault(x, "from 3, one", x.forged(0, 1, 0, 2, 3, 1), -9);
        C.dueFault(x, "from 5", x.forged(0, 1, 0, 2, 5, 1), -2);
    }

    /** Promise 19: "how much more.": OUTSIDE, of any STOPPER. */
    static void forgedByNoMore() {
        NineSmells x = Checks.registered(THREE);
        Checks.row(x, 0, 2, 8, 1, 8, 9, 8, 1, 8, 9);
        C.dueFault(x, "1 and 9 more", x.forged(0, 2, 0, 2, 0, 4), -9);
        for (int more : new int[] {0, 10, -1, 257, Checks.LEAST, Checks.MOST}) {
            for (int stopper = 0; stopper < 4; stopper++) {
                x.put(0, 2 * stopper + 1, more);
                C.dueFault(x, more + " of " + stopper, x.forged(0, 2, 0, 2, 0, 4), -2);
                C.dueFault(x, "not taken", x.forged(0, 2, 0, 2, 0, stopper), -9);
                x.put(0, 2 * stopper + 1, 1);
            }
        }
    }

    // ---- near, steals, fresh

    /** Promise 20: "STRENGTH of a SMELL of x, NEAR y for h hours.". */
    static void near() {
        NineSmells x = Checks.registered("p900000005;f070000005;s030000000");
        C.due("9 to 0, 5 hours", x.near(0, 1, 5, 0), 5);
        C.due("0 to 9, 5 hours", x.near(1, 0, 5, 0), 4);
        C.due("7 to 3, 6 hours", x.near(1, 2, 6, 1), 5);
        C.due("5 to 0, 9 hours", x.near(0, 2, 9, 8), 1);
        C.due("it is as it was", x.ofSign(0, 0), 9);
    }

    /** Promise 20: "UNKNOWN: SIGNS, SMELL", ahead of OUTSIDE. */
    static void nearUnknown() {
        NineSmells x = Checks.registered(THREE);
        for (int sign : NO_SIGN) {
            C.due("near(" + sign + ", 0, 0, 0)", x.near(sign, 0, 0, 0), -1);
            C.due("near(0, " + sign + ", 0, 0)", x.near(0, sign, 0, 0), -1);
            C.due("near(" + sign + ", 0, 11, 0)", x.near(sign, 0, 11, 0), -1);
            C.due("near(0, " + sign + ", -1, 0)", x.near(0, sign, -1, 0), -1);
        }
        for (int smell : NO_SMELL) {
            C.due("near(0, 1, 0, " + smell + ")", x.near(0, 1, 0, smell), -1);
            C.due("near(0, 1, 11, " + smell + ")", x.near(0, 1, 11, smell), -1);
        }
    }

    /** Promise 20: "OUTSIDE". */
    static void nearOutside() {
        NineSmells x = Checks.registered(THREE);
        for (int h : new int[] {-1, 11, Checks.LEAST, Checks.MOST}) {
            C.due("near(0, 1, " + h + ", 0)", x.near(0, 1, h, 0), -2);
            C.due("near(1, 1, " + h + ", 0)", x.near(1, 1, h, 0), -2);
        }
    }

    /** Promise 21: "STEALS: how many hours x is NEAR y". */
    static void steals() {
        NineSmells x = Checks.registered("p400000000;f900000000");
        x.bound(8);
        // 4 and 5 h by 10 to 9: 4, 4, 5, 5, 6, 6, 7, 7, 8. 9 less 5 h by 10 to 4: 9, 9, 8, 8, 7, 7, 6, 6, 5.
        C.due("steals(0, 1)", x.steals(0, 1), 8);
        C.due("steals(1, 0)", x.steals(1, 0), 8);
        x.bound(40);
        C.due("BOUND 40", x.steals(0, 1), 0);
    }

    /** Promise 21: "NONE": never, for in ten hours it is the other one, at BOUND 0 too. */
    static void stealsAlways() {
        NineSmells x = Checks.registered("p090909090;f909090909;s123456789");
        x.bound(0);
        for (int one = 0; one <= 2; one++) {
            C.due("steals(" + one + ", ..)", x.steals(one, (one + 1) % 3), 10);
            C.due("steals(" + one + ", ..)", x.steals(one, (one + 2) % 3), 10);
        }
    }

    /** Promise 21: "UNKNOWN: SIGNS". */
    static void stealsUnknown() {
        NineSmells x = Checks.registered(THREE);
        for (int sign : NO_SIGN) {
            C.due("steals(" + sign + ", 1)", x.steals(sign, 1), -1);
            C.due("steals(1, " + sign + ")", x.steals(1, sign), -1);
        }
    }

    /** Promise 21: "they are one". */
    static void stealsOfOne() {
        NineSmells x = Checks.registered(THREE);
        for (int sign = 0; sign <= 2; sign++) {
            C.due("steals of " + sign, x.steals(sign, sign), -1);
        }
    }

    /** Promise 22: "A NEW SMELL: how far APART at the least (what 0), the two SMELLS (1, 2), u, v (3, 4).". */
    static void fresh() {
        String one = "p900000000;s009000000";
        NineSmells x = Checks.registered(one);
        dueFresh(x, one, 27, 1, 3, 9, 9);
        x.bound(0);
        x.half(1, 1);
        x.year(50);
        x.paper(0, 1, 0);
        dueFresh(x, "as it was", 27, 1, 3, 9, 9);
        C.due("a TEXT that is not taken", Checks.enter(x, "p"), -101);
        dueFresh(x, "the same SIGNS still", 27, 1, 3, 9, 9);
        String other = "p999999900;f999999900";
        Checks.enter(x, other);
        dueFresh(x, other, 81, 7, 8, 9, 9);
    }

    /** Promise 22: "A NEW SMELL": of the SIGNS that are, none of those ahead of them. */
    static void freshOfAnotherRegister() {
        String one = "s999999999;s888888888;s777777777";
        NineSmells x = Checks.registered(one);
        dueFresh(x, one, 63, 0, 1, 0, 0);
        String other = "s900000000;s000000009;s000090000";
        Checks.enter(x, other);
        int[] want = freshOf(other);
        dueFresh(x, other, 27, 1, 2, 9, 9);
        dueFresh(x, "a new object's", want);
        Checks.enter(x, "s100000000;s000000000");
        dueFresh(x, "two SIGNS", freshOf("s100000000;s000000000"));
    }

    private static int[] freshOf(String text) {
        NineSmells x = Checks.registered(text);
        return new int[] {x.fresh(0), x.fresh(1), x.fresh(2), x.fresh(3), x.fresh(4)};
    }

    /** Promise 22: "OUTSIDE", ahead of STATE. */
    static void freshOutside() {
        NineSmells x = Checks.registered(THREE);
        NineSmells none = new NineSmells();
        for (int what : new int[] {-1, 5, Checks.LEAST, Checks.MOST}) {
            C.due("fresh(" + what + ")", x.fresh(what), -2);
            C.due("fresh(" + what + ") of none", none.fresh(what), -2);
        }
    }

    /** Promise 22: "STATE: there is no REGISTER". */
    static void freshWithoutRegister() {
        NineSmells x = new NineSmells();
        for (int what = 0; what <= 4; what++) {
            C.due("fresh(" + what + ")", x.fresh(what), -3);
        }
        C.due("a TEXT that is not taken", Checks.enter(x, "p"), -101);
        C.due("fresh(0)", x.fresh(0), -3);
        C.due("a TEXT", Checks.enter(x, THREE), 3);
        C.due("fresh(0)", x.fresh(0), 18);
    }
}
