/** Promises 8 to 16, and the terms of part 2: PAPERS. */
public final class PapersTest {
    private static final Checks C = new Checks("PapersTest");
    /** Each smells of two SMELLS of its own, but for the last, which smells of one. */
    private static final String FOUR = "p900100000;f090020000;s009003000;p000900000";
    /** Sums of two are 1 to 13; 1 and 13 are those of one PAIR each. */
    private static final String EIGHT = "s000000000;s100000000;s200000000;s300000000;"
        + "s400000000;s500000000;s600000000;s700000000";
    private static final int[] NO_SIGN = {-1, 4, Checks.LEAST, Checks.MOST};
    private static final int[] NO_SMELL = {-1, 9, Checks.LEAST, Checks.MOST};
    /** Of an object with three PAPERS. */
    private static final int[] NO_PAPER = {-1, 3, 8, Checks.LEAST, Checks.MOST};

    public static void main(String[] args) {
        C.run(PapersTest.class);
    }

    /** Three PAPERS of YEARS 0, 7 and 7; the second one is WASHED of 0 and 8, the first two are DROWNED by 12. */
    private static NineSmells three() {
        NineSmells x = Checks.registered(FOUR);
        x.paper(2, 0, 9);
        x.year(7);
        x.paper(0, 3, 1);
        x.wash(1, 0);
        x.wash(1, 8);
        x.flood(3);
        x.flood(9);
        x.paper(1, 3, 0);
        return x;
    }

    // ---- the terms: PAPERS and how they smell

    /** Term PAPERS: "PAPERS, 8 ever": the eighth is made, the ninth is not. */
    static void eightPapers() {
        NineSmells x = Checks.registered(FOUR);
        for (int p = 0; p < 8; p++) {
            C.due("paper " + p, x.paper(0, 1, 0), p);
            C.due("many(1)", x.many(1), p + 1);
        }
        C.due("a ninth", x.paper(0, 1, 0), -4);
        C.due("a tenth", x.paper(2, 3, 9), -4);
        C.due("many(1)", x.many(1), 8);
    }

    /** Term PAPERS: "numbered as they come", whoever signs them, and if one is refused between. */
    static void papersAreNumberedAsTheyCome() {
        NineSmells x = Checks.registered(FOUR);
        C.due("paper(3, 2, 1)", x.paper(3, 2, 1), 0);
        C.due("paper(3, 3, 1)", x.paper(3, 3, 1), -1);
        C.due("paper(3, 2, 10)", x.paper(3, 2, 10), -2);
        C.due("paper(0, 1, 2)", x.paper(0, 1, 2), 1);
        C.due("paper(0, 1, 2) again", x.paper(0, 1, 2), 2);
        C.due("first SIGN of 0", x.ofPaper(0, 0), 3);
        C.due("first SIGN of 1", x.ofPaper(1, 0), 0);
    }

    /** Term PAPERS: "are signed by two SIGNS in the YEAR that is". */
    static void papersAreSignedInTheYear() {
        NineSmells x = Checks.registered(FOUR);
        x.paper(0, 1, 0);
        x.year(99);
        x.paper(0, 1, 0);
        C.due("YEAR of 0", x.ofPaper(0, 2), 0);
        C.due("YEAR of 1", x.ofPaper(1, 2), 99);
        C.due("the one of YEAR 99 is fresh", x.smells(1, 0, 99), 36);
    }

    /** Term PAPERS: "with a COLD (0 .. 9)". */
    static void papersHaveACold() {
        NineSmells x = Checks.registered(FOUR);
        x.paper(0, 1, 0);
        x.paper(0, 1, 9);
        C.due("COLD of 0", x.ofPaper(0, 3), 0);
        C.due("COLD of 1", x.ofPaper(1, 3), 9);
        C.due("by COLD 0", x.smells(0, 0, 0), 36);
        C.due("by COLD 9", x.smells(1, 0, 0), 27);
    }

    /**
     * Term PAPER: "How a PAPER smells of a SMELL in a YEAR: 4 times STRENGTH of the first SIGN (this product FADED)":
     * not 4 times what is FADED.
     */
    static void firstSignsProductFades() {
        NineSmells x = Checks.registered("p390000000;s000000000");
        x.paper(0, 1, 0);
        int[] of3 = {12, 6, 3, 1, 0};
        int[] of9 = {36, 18, 9, 4, 2};
        for (int times = 0; times <= 4; times++) {
            C.due("4 times 3, " + times, x.smells(0, 0, 5 * times), of3[times]);
            C.due("4 times 9, " + times, x.smells(0, 1, 5 * times + 4), of9[times]);
        }
    }

    /** Term PAPER: "and 4 times that of the other one (this product FADED)": each by itself. */
    static void otherSignsProductFades() {
        NineSmells x = Checks.registered("p310000000;p110000000;f001000000");
        x.paper(0, 1, 0);
        C.due("12 and 4", x.smells(0, 0, 0), 16);
        C.due("6 and 2", x.smells(0, 0, 5), 8);
        C.due("3 and 1", x.smells(0, 0, 10), 4);
        C.due("1 and 0", x.smells(0, 0, 15), 1);
        C.due("1 and 1", x.smells(0, 1, 10), 2);
        C.due("0 and 0", x.smells(0, 1, 15), 0);
        x.paper(2, 0, 0);
        C.due("the FIELD's is the first", x.smells(1, 2, 9), 4);
        C.due("the FIELD's fades", x.smells(1, 2, 10), 2);
        C.due("the PERSON's is the other one", x.smells(1, 0, 10), 3);
        x.half(0, 1);
        C.due("by another HALF", x.smells(0, 0, 1), 8);
        C.due("by the HALF of another SMELL", x.smells(0, 1, 1), 8);
    }

    /** Term PAPER: "4 times STRENGTH of the first SIGN (this product FADED)": of a SEAL never, to YEAR 99. */
    static void sealsProductStays() {
        NineSmells x = Checks.registered("s900000000;p000000000");
        x.half(0, 1);
        x.paper(0, 1, 0);
        x.paper(1, 0, 0);
        C.due("first", x.smells(0, 0, 99), 36);
        C.due("other one", x.smells(1, 0, 99), 36);
    }

    /** Term PAPER: "together less COLD (0 at least)": once for both, behind the fading. */
    static void coldIsTakenOnce() {
        NineSmells x = Checks.registered("p310000000;p111000000;s010000000");
        x.paper(0, 1, 5);
        C.due("12 and 4 less 5", x.smells(0, 0, 0), 11);
        C.due("4 and 4 less 5", x.smells(0, 1, 0), 3);
        C.due("6 and 2 less 5", x.smells(0, 0, 5), 3);
    }

    /** Term PAPER: "(0 at least)". */
    static void coldLeaves0AtLeast() {
        NineSmells x = Checks.registered("p200000000;f100000000");
        x.paper(0, 1, 7);
        x.paper(0, 1, 8);
        x.paper(0, 1, 9);
        // 8 and 4; in YEAR 5: 4 and 4; in YEAR 10: 2 and 2.
        C.due("8 less 7", x.smells(0, 0, 5), 1);
        C.due("8 less 8", x.smells(1, 0, 5), 0);
        C.due("8 less 9", x.smells(2, 0, 5), 0);
        C.due("4 less 9", x.smells(2, 0, 10), 0);
        C.due("0 less 7", x.smells(0, 8, 0), 0);
    }

    /** Term PAPER: "0, if it was WASHED of that": of that alone, and in all YEARS. */
    static void washedSmellsOfNothing() {
        NineSmells x = Checks.registered(FOUR);
        x.paper(0, 1, 0);
        x.paper(0, 1, 0);
        x.wash(0, 0);
        C.due("WASHED of 0", x.smells(0, 0, 0), 0);
        C.due("in YEAR 99", x.smells(0, 0, 99), 0);
        C.due("not of 1", x.smells(0, 1, 0), 36);
        C.due("not the other PAPER", x.smells(1, 0, 0), 36);
        x.wash(1, 8);
        C.due("of what it did not smell of", x.smells(1, 8, 0), 0);
    }

    /** Term PAPER: "then all that it was DROWNED by is more": behind COLD, and it does not fade. */
    static void drownedIsMore() {
        NineSmells x = Checks.registered(FOUR);
        x.paper(0, 1, 9);
        x.flood(1);
        x.flood(9);
        C.due("36 less 9, and 10", x.smells(0, 0, 0), 37);
        C.due("0 less 9, and 10", x.smells(0, 8, 0), 10);
        C.due("in YEAR 99", x.smells(0, 0, 99), 10);
    }

    /** Term PAPER: "(also if it was WASHED)": ahead of the flood, or behind it. */
    static void washedIsDrowned() {
        NineSmells x = Checks.registered(FOUR);
        x.paper(0, 1, 3);
        x.wash(0, 0);
        x.flood(4);
        C.due("WASHED, then DROWNED", x.smells(0, 0, 0), 4);
        x.wash(0, 1);
        C.due("DROWNED, then WASHED", x.smells(0, 1, 0), 4);
        x.flood(2);
        C.due("and DROWNED again", x.smells(0, 1, 0), 6);
    }

    // ---- the terms: FAR, PAIRS, PROVED, AGAIN

    /** Term FAR: "how far what it smells is from 4 times the STRENGTHS of both together": more or less. */
    static void farIsMoreOrLess() {
        NineSmells x = Checks.registered("s200000000;s010000000;s400000000");
        x.paper(0, 1, 0);
        C.due("from its own", x.far(0, 0, 1), 0);
        C.due("too little of 0", x.far(0, 2, 1), 8);
        C.due("and of another one too much", x.far(0, 0, 2), 16 + 4);
        x.flood(9);
        C.due("too much", x.far(0, 0, 1), 81);
        C.due("1 too much of 0", x.far(0, 2, 1), 1 + 8 * 9);
    }

    /** Term FAR: "FAR of a PAPER from two SIGNS in a YEAR: for all SMELLS": the first, the last, "summed up". */
    static void farForAllSmells() {
        NineSmells x = Checks.registered("s000000000;s000000000;s123456789");
        x.paper(0, 1, 0);
        C.due("from 1 to 9", x.far(0, 0, 2), 4 * 45);
        x.wash(0, 4);
        C.due("WASHED of nothing", x.far(0, 2, 0), 4 * 45);
        NineSmells y = Checks.registered("s999999999;s999999999;s000000000");
        y.paper(0, 1, 0);
        C.due("from nothing and 9 each", y.far(0, 2, 0), 9 * 36);
    }

    /** Term FAR: "4 times the STRENGTHS of both together", which do not fade. */
    static void farFromWhatDoesNotFade() {
        NineSmells x = Checks.registered("p900000000;p090000000;p900000000");
        x.paper(0, 1, 0);
        x.year(99);
        C.due("all is FADED", x.far(0, 0, 1), 72);
        C.due("two of one SMELL", x.far(0, 0, 2), 72);
    }

    /** Term PAIRS: "Of PAIRS (two SIGNS, the first one of the lesser number)": 28 of eight, 1 of two. */
    static void pairs() {
        NineSmells x = Checks.registered(EIGHT);
        x.bound(999);
        x.paper(1, 0, 0);
        x.paper(7, 6, 0);
        C.due("28 PAIRS", x.fits(0, 0), 28);
        C.due("the first PAIR", x.fits(0, 1), 1);
        C.due("the last PAIR", x.fits(1, 1), 67);
        NineSmells two = Checks.registered("s100000000;s200000000");
        two.paper(1, 0, 0);
        C.due("1 PAIR", two.fits(0, 0), 1);
        C.due("the only PAIR", two.fits(0, 1), 1);
    }

    /** Term PAIRS: "those FIT from which it is no farther than BOUND": as far, but not one more. */
    static void fitAsFarAsBound() {
        NineSmells x = Checks.registered(FOUR);
        x.paper(2, 1, 3);
        // 36 + 36 + 8 + 12 less 3 each: 12 from its own two.
        x.bound(12);
        C.due("as far", x.fits(0, 0), 1);
        x.bound(11);
        C.due("one more", x.fits(0, 0), 0);
        x.bound(0);
        C.due("BOUND 0", x.fits(0, 0), 0);
        x.paper(2, 1, 0);
        C.due("BOUND 0, not FAR", x.fits(1, 0), 1);
    }

    /** Term NEAREST: "the NEAREST is that of all PAIRS from which it is the least far", even if it does not FIT. */
    static void nearestNeedNotFit() {
        NineSmells x = Checks.registered(FOUR);
        x.paper(2, 1, 3);
        x.bound(0);
        C.due("none FITS", x.fits(0, 0), 0);
        C.due("NEAREST", x.fits(0, 1), 12);
        C.due("FAR", x.fits(0, 2), 12);
    }

    /** Term NEAREST: "the least far", however far: DROWNED for nearly as many calls as an object has. */
    static void nearestOfFarPaper() {
        NineSmells x = Checks.registered("s000000000;s000000001;s000000002");
        x.paper(0, 1, 0);
        for (int k = 0; k < 470; k++) {
            x.flood(9);
        }
        C.due("DROWNED", x.ofPaper(0, 5), 9 * 470);
        C.due("smells", x.smells(0, 8, 99), 9 * 470 + 4);
        C.due("FAR from its own", x.far(0, 1, 0), 9 * 9 * 470);
        C.due("NEAREST", x.fits(0, 1), 12);
        C.due("FAR", x.fits(0, 2), 9 * 9 * 470 - 8);
        C.due("none FITS", x.fits(0, 0), 0);
    }

    /** Term NEAREST: "of several the first". */
    static void nearestOfSeveral() {
        NineSmells x = Checks.registered("p100000000;p200000000;p300000000;p200000000;p400000000");
        x.paper(1, 3, 0);
        C.due("02 as near as its own", x.fits(0, 1), 2);
        C.due("FAR", x.fits(0, 2), 0);
        x.paper(4, 3, 0);
        C.due("14 as near", x.fits(1, 1), 14);
        x.bound(0);
        C.due("FIT: 02, 13", x.fits(0, 0), 2);
        C.due("FIT: 14, 34", x.fits(1, 0), 2);
        x.bound(4);
        // 16 is left; pairs sum to 3, 4, 3, 5, 5, 4, 6, 5, 7, 6: within 1 of 4.
        C.due("FIT: within 4", x.fits(0, 0), 7);
        NineSmells same = Checks.registered("s000000000;s000000000;s000000000");
        same.paper(2, 1, 0);
        C.due("all alike", same.fits(0, 1), 1);
    }

    /** Term PROVED: "PROVED: it is no farther than BOUND from its own two": as far, but not one more. */
    static void provedAsFarAsBound() {
        NineSmells x = Checks.registered(FOUR);
        for (int p = 0; p < 8; p++) {
            x.paper(p % 2 == 0 ? 1 : 0, p % 2 == 0 ? 0 : 1, p);
        }
        // COLD c takes c of 36, 36 and 8, and 4 at most of 4: 0, 4, 8, 12, 16, 19, 22, 25 far.
        int[] bounds = {40, 25, 24, 22, 21, 19, 18, 16, 15, 12, 11, 8, 7, 4, 3, 0};
        int[] want = {255, 255, 127, 127, 63, 63, 31, 31, 15, 15, 7, 7, 3, 3, 1, 1};
        for (int k = 0; k < bounds.length; k++) {
            x.bound(bounds[k]);
            C.due("BOUND " + bounds[k], x.proved(), want[k]);
        }
    }

    /** Term PROVED: "and from every other PAIR farther than from them": as far is not farther. */
    static void provedOnlyIfOthersAreFarther() {
        NineSmells x = Checks.registered("s100000000;s000000000;s200000000");
        x.paper(0, 1, 0);
        x.bound(999);
        // Of 0 it smells by 4 and what it is DROWNED by; 01 are 4, 12 are 8.
        x.flood(1);
        C.due("5", x.proved(), 1);
        x.flood(1);
        C.due("6", x.proved(), 0);
        C.due("as far from its own", x.far(0, 0, 1), x.far(0, 1, 2));
        x.flood(1);
        C.due("7", x.proved(), 0);
    }

    /** Term PROVED: "and from every other PAIR farther than from them": a PAIR ahead, behind, with one of them. */
    static void provedOnlyIfEveryOtherIsFarther() {
        NineSmells x = Checks.registered("p100000000;p200000000;p300000000;p200000000");
        x.paper(1, 3, 0);
        C.due("02 as near as 13", x.proved(), 0);
        x.paper(0, 1, 0);
        C.due("03 as near as 01", x.proved(), 0);
        x.paper(2, 1, 0);
        C.due("23 as near as 12", x.proved(), 0);
        NineSmells y = Checks.registered("p100000000;p210000000;p300000000;p200000000");
        y.paper(1, 3, 0);
        y.paper(3, 1, 0);
        y.paper(3, 0, 0);
        y.wash(1, 1);
        C.due("02 nearer than 13, when WASHED", y.proved(), 1 + 4);
    }

    /** Term PROVED: "and from every other PAIR farther than from them": one that has one of its two SIGNS, too. */
    static void provedOnlyIfThoseOfOneAreFarther() {
        NineSmells x = Checks.registered("s100000000;s100000000;s900000000;s090000000");
        x.paper(1, 2, 0);
        C.due("02 as near as 12", x.proved(), 0);
        x.paper(0, 2, 0);
        C.due("12 as near as 02", x.proved(), 0);
        x.paper(2, 3, 0);
        C.due("none as near as 23", x.proved(), 4);
        NineSmells y = Checks.registered("s900000000;s100000000;s100000000;s090000000");
        y.paper(0, 2, 0);
        C.due("01 as near as 02", y.proved(), 0);
        y.paper(1, 0, 0);
        C.due("02 as near as 01", y.proved(), 0);
        y.paper(0, 3, 0);
        C.due("none as near as 03", y.proved(), 4);
    }

    /** Term PROVED: "from every other PAIR": of eight SIGNS each that smells as 0 does, to the last one. */
    static void provedOnlyIfAllOfEightAreFarther() {
        for (int alike = 1; alike <= 7; alike++) {
            StringBuilder text = new StringBuilder();
            for (int sign = 0; sign <= 7; sign++) {
                StringBuilder strengths = new StringBuilder("000000000");
                strengths.setCharAt(sign == alike ? 0 : sign, '9');
                text.append(sign == 0 ? "s" : ";s").append(strengths);
            }
            NineSmells x = Checks.registered(text.toString());
            int[] others = alike == 1 ? new int[] {2, 3} : alike == 2 ? new int[] {1, 3} : new int[] {1, 2};
            x.paper(0, others[0], 0);
            x.paper(others[0], others[1], 0);
            x.paper(others[1], alike, 0);
            C.due(alike + " as 0", x.proved(), 2);
        }
    }

    /** Term PROVED: "every other PAIR": its own two, turned, are none, and of two SIGNS there is none. */
    static void provedIfThereIsNoOther() {
        NineSmells x = Checks.registered("p100000000;p100000000");
        x.paper(1, 0, 0);
        x.paper(0, 1, 0);
        C.due("proved()", x.proved(), 3);
    }

    /**
     * Term AGAIN: "AGAIN: the first YEAR from the one that is": not an earlier one; that which is, if not PROVED in
     * it.
     */
    static void againFromTheYearThatIs() {
        NineSmells x = Checks.registered(FOUR);
        x.paper(0, 1, 0);
        x.bound(50);
        // 18 + 2 in YEARS 5 .. 9; then 27 + 18 + 3 + 4 = 52.
        C.due("in YEAR 0", x.again(0), 10);
        x.year(10);
        C.due("in YEAR 10", x.again(0), 10);
        x.year(11);
        C.due("in YEAR 11", x.again(0), 11);
        x.bound(52);
        // 15 .. 19: 32 + 18 + 4 + 4 = 58.
        C.due("by more BOUND", x.again(0), 15);
    }

    /** Term AGAIN: "the first YEAR", though it is PROVED in later ones. */
    static void againIsTheFirst() {
        NineSmells x = Checks.registered("p990000000;s000000000");
        x.half(0, 1);
        x.half(1, 9);
        x.paper(0, 1, 0);
        x.flood(9);
        x.flood(9);
        x.bound(150);
        // 7 times 18, and 18, 0, 9, 14, 16, 17, 18 .. of 0, and 18 (nine years), 0 (nine years), 9 .. of 1.
        C.due("144 + 18", x.again(0), 0);
        x.year(1);
        C.due("144, then 153", x.again(0), 2);
        x.year(9);
        C.due("144 to YEAR 17", x.again(0), 18);
    }

    /** Term AGAIN: "to 99 in which it is not PROVED": YEAR 99 is looked at, 100 is not. */
    static void againTo99() {
        NineSmells x = Checks.registered(FOUR);
        x.bound(0);
        x.year(94);
        x.paper(0, 2, 0);
        x.year(95);
        x.paper(0, 2, 0);
        C.due("FADED in 99", x.again(0), 99);
        C.due("FADED in 100", x.again(1), -9);
        x.year(99);
        C.due("in 99", x.again(0), 99);
        C.due("in 99, not FADED", x.again(1), -9);
    }

    /** Term AGAIN: "(all as it is now)": HALVES, BOUND, what it was WASHED of and DROWNED by. */
    static void againAsItIsNow() {
        NineSmells x = Checks.registered(FOUR);
        x.paper(0, 2, 0);
        // In YEAR 20 2 and 0 are left of the PERSON: 34 + 4 from its own, 2 + 36 from 2 and 3.
        C.due("as at first", x.again(0), 20);
        x.half(0, 9);
        // Those 2 and 0 are left in YEAR 36; in YEAR 27 4 and 0 were: 32 + 4 from its own, 4 + 36 from 2 and 3.
        C.due("by another HALF", x.again(0), 36);
        x.half(0, 5);
        x.bound(19);
        C.due("by less BOUND", x.again(0), 5);
        x.bound(40);
        x.wash(0, 2);
        C.due("WASHED: 36 in YEAR 0, 54 + 2 in YEAR 5", x.again(0), 5);
        x.flood(9);
        C.due("DROWNED", x.again(0), 0);
    }

    // ---- paper, ofPaper, smells

    /** Promise 8: "A PAPER: its number.". */
    static void paper() {
        NineSmells x = Checks.registered(FOUR);
        C.due("paper(0, 1, 0)", x.paper(0, 1, 0), 0);
        C.due("paper(3, 0, 9)", x.paper(3, 0, 9), 1);
        C.due("many(1)", x.many(1), 2);
    }

    /** Promise 8: "UNKNOWN: SIGNS", ahead of OUTSIDE. */
    static void paperOfNoSign() {
        NineSmells x = Checks.registered(FOUR);
        for (int sign : NO_SIGN) {
            C.due("paper(" + sign + ", 0, 0)", x.paper(sign, 0, 0), -1);
            C.due("paper(0, " + sign + ", 0)", x.paper(0, sign, 0), -1);
            C.due("paper(" + sign + ", 0, 10)", x.paper(sign, 0, 10), -1);
            C.due("paper(0, " + sign + ", -1)", x.paper(0, sign, -1), -1);
        }
        C.due("many(1)", x.many(1), 0);
    }

    /** Promise 8: "they are one", ahead of OUTSIDE. */
    static void paperOfOne() {
        NineSmells x = Checks.registered(FOUR);
        for (int sign = 0; sign <= 3; sign++) {
            C.due("paper of " + sign, x.paper(sign, sign, 0), -1);
            C.due("paper of " + sign + ", COLD 10", x.paper(sign, sign, 10), -1);
        }
        C.due("many(1)", x.many(1), 0);
    }

    /** Promise 8: "OUTSIDE: COLD", ahead of FULL. */
    static void paperOutside() {
        NineSmells x = Checks.registered(FOUR);
        for (int cold : new int[] {-1, 10, Checks.LEAST, Checks.MOST}) {
            C.due("COLD " + cold, x.paper(0, 1, cold), -2);
        }
        C.due("many(1)", x.many(1), 0);
        for (int p = 0; p < 8; p++) {
            x.paper(0, 1, 0);
        }
        C.due("COLD -1, FULL", x.paper(0, 1, -1), -2);
        C.due("COLD 10, FULL", x.paper(0, 1, 10), -2);
    }

    /** Promise 8: "FULL", behind the others; it changes nothing. */
    static void paperFull() {
        NineSmells x = Checks.registered(FOUR);
        for (int p = 0; p < 8; p++) {
            x.paper(p % 4, (p + 1) % 4, p);
        }
        C.due("a ninth", x.paper(2, 0, 9), -4);
        C.due("a ninth of no SIGN", x.paper(4, 0, 0), -1);
        C.due("a ninth of one", x.paper(1, 1, 0), -1);
        C.due("ofPaper(8, 0)", x.ofPaper(8, 0), -1);
        for (int p = 0; p < 8; p++) {
            C.due("first SIGN of " + p, x.ofPaper(p, 0), p % 4);
            C.due("COLD of " + p, x.ofPaper(p, 3), p);
        }
    }

    /** Promise 9: "0, 1 its SIGNS (as told), 2 the YEAR, 3 COLD". */
    static void ofPaper() {
        NineSmells x = three();
        int[][] want = {{2, 0, 0, 9}, {0, 3, 7, 1}, {1, 3, 7, 0}};
        for (int p = 0; p < 3; p++) {
            for (int what = 0; what <= 3; what++) {
                C.due("ofPaper(" + p + ", " + what + ")", x.ofPaper(p, what), want[p][what]);
            }
        }
    }

    /** Promise 9: "4 of which SMELLS it was WASHED (a set)": of none, of each, of all. */
    static void ofPaperWashed() {
        NineSmells x = three();
        C.due("of none", x.ofPaper(0, 4), 0);
        C.due("of 0 and 8", x.ofPaper(1, 4), 257);
        int set = 0;
        for (int smell = 0; smell <= 8; smell++) {
            x.wash(2, smell);
            set += 1 << smell;
            C.due("of 0 to " + smell, x.ofPaper(2, 4), set);
        }
        C.due("of all", x.ofPaper(2, 4), 511);
    }

    /** Promise 9: "5 by how much it was DROWNED": by no flood, by one, by many together. */
    static void ofPaperDrowned() {
        NineSmells x = three();
        C.due("by none", x.ofPaper(2, 5), 0);
        C.due("by two", x.ofPaper(0, 5), 12);
        for (int k = 1; k <= 200; k++) {
            x.flood(9);
        }
        C.due("by 200", x.ofPaper(2, 5), 1800);
        C.due("by 202", x.ofPaper(1, 5), 1812);
        C.due("it smells by that", x.smells(2, 0, 7), 1800);
    }

    /** Promise 9: "Of a PAPER"; "UNKNOWN" is ahead of OUTSIDE. */
    static void ofNoPaper() {
        NineSmells x = three();
        for (int p : NO_PAPER) {
            C.due("ofPaper(" + p + ", 0)", x.ofPaper(p, 0), -1);
            C.due("ofPaper(" + p + ", 6)", x.ofPaper(p, 6), -1);
        }
    }

    /** Promise 9: "UNKNOWN", of an object without PAPERS too. */
    static void ofPaperOfNone() {
        NineSmells x = Checks.registered(FOUR);
        C.due("ofPaper(0, 0)", x.ofPaper(0, 0), -1);
        x.paper(0, 1, 0);
        C.due("ofPaper(0, 0)", x.ofPaper(0, 0), 0);
        C.due("ofPaper(1, 0)", x.ofPaper(1, 0), -1);
    }

    /** Promise 9: "OUTSIDE". */
    static void ofPaperOutside() {
        NineSmells x = three();
        for (int what : new int[] {-1, 6, Checks.LEAST, Checks.MOST}) {
            C.due("ofPaper(0, " + what + ")", x.ofPaper(0, what), -2);
        }
    }

    /** Promise 10: "How a PAPER smells of a SMELL in a YEAR". */
    static void smells() {
        NineSmells x = Checks.registered(FOUR);
        x.paper(1, 0, 0);
        int[] now = {36, 36, 0, 4, 8, 0, 0, 0, 0};
        int[] fiveYears = {18, 36, 0, 2, 8, 0, 0, 0, 0};
        int[] tenYears = {9, 18, 0, 1, 4, 0, 0, 0, 0};
        for (int smell = 0; smell < 9; smell++) {
            C.due("smell " + smell, x.smells(0, smell, 0), now[smell]);
            C.due("smell " + smell + ", 5 years", x.smells(0, smell, 5), fiveYears[smell]);
            C.due("smell " + smell + ", 10 years", x.smells(0, smell, 10), tenYears[smell]);
        }
    }

    /** Promise 10: "(no less than the one in which it was signed, to 99)", whatever YEAR is. */
    static void smellsInItsYears() {
        NineSmells x = Checks.registered(FOUR);
        x.year(10);
        x.paper(1, 0, 0);
        C.due("as it was signed", x.smells(0, 0, 10), 36);
        C.due("in YEAR 99", x.smells(0, 0, 99), 0);
        C.due("FIELD, in YEAR 99", x.smells(0, 1, 99), 0);
        x.year(20);
        C.due("a YEAR that is over", x.smells(0, 0, 10), 36);
        C.due("PERSON, four years", x.smells(0, 0, 14), 36);
        C.due("PERSON, five years", x.smells(0, 0, 15), 18);
        C.due("FIELD, nine years", x.smells(0, 1, 19), 36);
        C.due("FIELD, ten years", x.smells(0, 1, 20), 18);
    }

    /** Promise 10: "(no less than the one in which it was signed": of several PAPERS each has its own. */
    static void smellsFromEachPapersYear() {
        NineSmells x = Checks.registered("s100000000;s200000000;s300000000");
        int[] signed = {0, 3, 7};
        for (int p = 0; p < 3; p++) {
            x.year(signed[p]);
            x.paper(p, (p + 1) % 3, 0);
        }
        int[] want = {12, 20, 16};
        for (int p = 0; p < 3; p++) {
            C.due("paper " + p, x.smells(p, 0, signed[p]), want[p]);
            C.due("paper " + p + ", a YEAR too early", x.smells(p, 0, signed[p] - 1), -2);
        }
    }

    /** Promise 10: "UNKNOWN: PAPER, SMELL", ahead of OUTSIDE. */
    static void smellsUnknown() {
        NineSmells x = three();
        for (int p : NO_PAPER) {
            C.due("smells(" + p + ", 0, 10)", x.smells(p, 0, 10), -1);
            C.due("smells(" + p + ", 0, 100)", x.smells(p, 0, 100), -1);
        }
        for (int smell : NO_SMELL) {
            C.due("smells(0, " + smell + ", 10)", x.smells(0, smell, 10), -1);
            C.due("smells(0, " + smell + ", -1)", x.smells(0, smell, -1), -1);
        }
    }

    /** Promise 10: "OUTSIDE": ahead of the YEAR in which it was signed, and behind 99. */
    static void smellsOutside() {
        NineSmells x = three();
        for (int year : new int[] {6, 0, -1, 100, Checks.LEAST, Checks.MOST}) {
            C.due("in YEAR " + year, x.smells(1, 0, year), -2);
        }
        C.due("of YEAR 0, in YEAR -1", x.smells(0, 0, -1), -2);
        C.due("of YEAR 0, in YEAR 100", x.smells(0, 0, 100), -2);
    }

    // ---- wash, flood, far

    /** Promise 11: "A PAPER is WASHED of a SMELL: 1", of the first and the last. */
    static void wash() {
        NineSmells x = three();
        C.due("wash(0, 0)", x.wash(0, 0), 1);
        C.due("wash(0, 8)", x.wash(0, 8), 1);
        C.due("its set", x.ofPaper(0, 4), 257);
        C.due("wash(2, 0)", x.wash(2, 0), 1);
        C.due("set of 2", x.ofPaper(2, 4), 1);
    }

    /** Promise 11: "0: it was"; it still is. */
    static void washAgain() {
        NineSmells x = three();
        C.due("wash(1, 0)", x.wash(1, 0), 0);
        C.due("wash(1, 8)", x.wash(1, 8), 0);
        C.due("its set", x.ofPaper(1, 4), 257);
        C.due("wash(1, 4)", x.wash(1, 4), 1);
        C.due("wash(1, 4) again", x.wash(1, 4), 0);
        C.due("its set", x.ofPaper(1, 4), 257 + 16);
    }

    /** Promise 11: "UNKNOWN". */
    static void washUnknown() {
        NineSmells x = three();
        for (int p : NO_PAPER) {
            C.due("wash(" + p + ", 0)", x.wash(p, 0), -1);
        }
        for (int smell : NO_SMELL) {
            C.due("wash(0, " + smell + ")", x.wash(0, smell), -1);
        }
        C.due("its set", x.ofPaper(0, 4), 0);
    }

    /** Promise 12: "A flood: all PAPERS are DROWNED by v (1 .. 9) more": those that are, not those that come. */
    static void flood() {
        NineSmells x = Checks.registered(FOUR);
        x.paper(0, 1, 9);
        x.flood(1);
        x.paper(0, 2, 9);
        x.flood(9);
        x.paper(0, 3, 9);
        C.due("DROWNED by both", x.ofPaper(0, 5), 10);
        C.due("DROWNED by one", x.ofPaper(1, 5), 9);
        C.due("DROWNED by none", x.ofPaper(2, 5), 0);
    }

    /** Promise 12: "how many PAPERS there are": none, one, eight. */
    static void floodTellsHowMany() {
        NineSmells x = Checks.registered(FOUR);
        C.due("of none", x.flood(9), 0);
        for (int p = 1; p <= 8; p++) {
            x.paper(0, 1, 0);
            C.due("of " + p, x.flood(1), p);
        }
        C.due("first one", x.ofPaper(0, 5), 8);
        C.due("last one", x.ofPaper(7, 5), 1);
        C.due("without a REGISTER", new NineSmells().flood(1), 0);
    }

    /** Promise 12: "OUTSIDE". */
    static void floodOutside() {
        NineSmells x = three();
        NineSmells none = new NineSmells();
        for (int v : new int[] {0, 10, -1, Checks.LEAST, Checks.MOST}) {
            C.due("flood(" + v + ")", x.flood(v), -2);
            C.due("flood(" + v + ") of none", none.flood(v), -2);
        }
        C.due("as it was", x.ofPaper(0, 5), 12);
    }

    /** Promise 13: "FAR, this YEAR.". */
    static void far() {
        NineSmells x = Checks.registered(FOUR);
        x.paper(0, 1, 0);
        C.due("from its own", x.far(0, 0, 1), 0);
        C.due("from its own, turned", x.far(0, 1, 0), 0);
        C.due("from 0 and 2", x.far(0, 0, 2), 36 + 36 + 8 + 12);
        C.due("from 2 and 3", x.far(0, 2, 3), 36 + 36 + 36 + 32 + 8 + 12);
        x.year(4);
        C.due("four years later", x.far(0, 0, 1), 0);
        x.year(5);
        C.due("five years later", x.far(0, 0, 1), 18 + 2);
        C.due("from 0 and 3", x.far(0, 0, 3), 18 + 36 + 38 + 8);
        x.flood(1);
        C.due("DROWNED", x.far(0, 0, 1), 17 + 1 + 1 + 1 + 1 + 1 + 1 + 1 + 1);
        x.year(99);
        C.due("in YEAR 99", x.far(0, 1, 0), 35 + 35 + 1 + 3 + 7 + 1 + 1 + 1 + 1);
    }

    /** Promise 13: "FAR": of several PAPERS each by itself. */
    static void farOfEachPaper() {
        NineSmells x = Checks.registered("s100000000;s200000000;s300000000");
        x.paper(0, 1, 0);
        x.paper(1, 2, 0);
        x.paper(2, 0, 0);
        int[] from01 = {0, 8, 4};
        int[] from02 = {4, 4, 0};
        for (int p = 0; p < 3; p++) {
            C.due("far(" + p + ", 0, 1)", x.far(p, 0, 1), from01[p]);
            C.due("far(" + p + ", 2, 0)", x.far(p, 2, 0), from02[p]);
        }
    }

    /** Promise 13: "UNKNOWN: PAPER, SIGNS". */
    static void farUnknown() {
        NineSmells x = three();
        for (int p : NO_PAPER) {
            C.due("far(" + p + ", 0, 1)", x.far(p, 0, 1), -1);
        }
        for (int sign : NO_SIGN) {
            C.due("far(0, " + sign + ", 1)", x.far(0, sign, 1), -1);
            C.due("far(0, 1, " + sign + ")", x.far(0, 1, sign), -1);
        }
    }

    /** Promise 13: "they are one". */
    static void farFromOne() {
        NineSmells x = three();
        for (int sign = 0; sign <= 3; sign++) {
            C.due("far from " + sign, x.far(0, sign, sign), -1);
        }
    }

    // ---- fits, proved, again

    /** Promise 14: "how many PAIRS FIT (what 0)": none, some, all. */
    static void fits() {
        NineSmells x = Checks.registered(FOUR);
        x.paper(2, 1, 3);
        C.due("one", x.fits(0, 0), 1);
        x.bound(11);
        C.due("none", x.fits(0, 0), 0);
        x.bound(999);
        C.due("all", x.fits(0, 0), 6);
    }

    /** Promise 14: "the NEAREST as 10 times its first and its second SIGN (1)": 1 for 0 and 1. */
    static void fitsNearest() {
        NineSmells x = Checks.registered(FOUR);
        x.paper(1, 0, 0);
        x.paper(3, 0, 0);
        x.paper(2, 3, 0);
        C.due("0 and 1", x.fits(0, 1), 1);
        C.due("0 and 3", x.fits(1, 1), 3);
        C.due("2 and 3", x.fits(2, 1), 23);
    }

    /** Promise 14: "FAR from that (2)", "this YEAR". */
    static void fitsFar() {
        NineSmells x = Checks.registered(FOUR);
        x.paper(2, 1, 3);
        C.due("FAR", x.fits(0, 2), 12);
        x.year(20);
        // The FIELD's is FADED by two halves: 9 less 3, and 2 less 3.
        C.due("FAR, later", x.fits(0, 2), 30 + 3 + 8 + 3);
        C.due("NEAREST, later", x.fits(0, 1), 12);
        C.due("none FITS, later", x.fits(0, 0), 0);
    }

    /** Promise 14: "Of a PAPER, this YEAR": each of them by itself. */
    static void fitsThisYear() {
        NineSmells x = Checks.registered("p900000000;s000000000;s400000000");
        x.paper(0, 1, 0);
        C.due("in YEAR 0: 36", x.fits(0, 1), 1);
        x.year(5);
        C.due("in YEAR 5: 18", x.fits(0, 1), 12);
        x.paper(0, 1, 0);
        C.due("signed in YEAR 5", x.fits(1, 1), 1);
    }

    /** Promise 14: "UNKNOWN", ahead of OUTSIDE. */
    static void fitsUnknown() {
        NineSmells x = three();
        for (int p : NO_PAPER) {
            C.due("fits(" + p + ", 0)", x.fits(p, 0), -1);
            C.due("fits(" + p + ", 3)", x.fits(p, 3), -1);
        }
    }

    /** Promise 14: "OUTSIDE". */
    static void fitsOutside() {
        NineSmells x = three();
        for (int what : new int[] {-1, 3, Checks.LEAST, Checks.MOST}) {
            C.due("fits(0, " + what + ")", x.fits(0, what), -2);
        }
    }

    /** Promise 15: "PAPERS that are PROVED this YEAR, as a set.": of none, of all eight, of some. */
    static void proved() {
        NineSmells x = Checks.registered(FOUR);
        C.due("of none", x.proved(), 0);
        for (int p = 0; p < 8; p++) {
            x.paper(0, 1, p == 2 ? 9 : 0);
            C.due("of " + (p + 1), x.proved(), (1 << p + 1) - 1);
        }
        x.bound(0);
        C.due("all but 2", x.proved(), 251);
        C.due("without a REGISTER", new NineSmells().proved(), 0);
    }

    /** Promise 15: "this YEAR". */
    static void provedThisYear() {
        NineSmells x = Checks.registered(FOUR);
        x.bound(0);
        x.paper(0, 1, 0);
        x.paper(1, 2, 0);
        x.year(4);
        C.due("in YEAR 4", x.proved(), 3);
        x.year(5);
        x.paper(0, 1, 0);
        C.due("in YEAR 5", x.proved(), 2 + 4);
        x.year(10);
        C.due("in YEAR 10", x.proved(), 0);
        x.bound(999);
        x.year(99);
        C.due("in YEAR 99", x.proved(), 0);
    }

    /** Promise 16: "AGAIN": of each PAPER by itself. */
    static void again() {
        NineSmells x = Checks.registered(FOUR);
        x.paper(0, 1, 0);
        x.paper(0, 2, 9);
        x.year(3);
        x.paper(0, 2, 0);
        C.due("PERSON and FIELD", x.again(0), 10);
        // 9 each of 36, 36 and 12, and the 4: 31; in YEAR 5 another 18.
        C.due("SEAL and PERSON, COLD 9", x.again(1), 5);
        C.due("SEAL and PERSON", x.again(2), 23);
    }

    /** Promise 16: "NONE": it is PROVED to the end. */
    static void againNone() {
        NineSmells x = Checks.registered("s900000000;s090000000");
        x.paper(0, 1, 0);
        C.due("SEALS", x.again(0), -9);
        x.year(99);
        C.due("SEALS, YEAR 99", x.again(0), -9);
        x.flood(9);
        x.bound(80);
        C.due("DROWNED, YEAR 99", x.again(0), 99);
        x.bound(81);
        C.due("by more BOUND", x.again(0), -9);
    }

    /** Promise 16: "UNKNOWN". */
    static void againUnknown() {
        NineSmells x = three();
        for (int p : NO_PAPER) {
            C.due("again(" + p + ")", x.again(p), -1);
        }
    }
}
