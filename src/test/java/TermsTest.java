/** The terms of all calls: REFUSALS, FAULTS, NONE, sets, quotients, shares; and how long an object is used. */
public final class TermsTest {
    private static final Checks C = new Checks("TermsTest");
    /** A PERSON, a FIELD and a SEAL. */
    private static final String THREE = "p900000001;f198765432;s050000000";

    public static void main(String[] args) {
        C.run(TermsTest.class);
    }

    /** An object with all that it can have: two PAPERS, rows of bytes, shorts and ints; sheet 2 has nothing. */
    private static NineSmells used() {
        NineSmells x = Checks.registered(THREE);
        x.half(0, 3);
        x.bound(77);
        x.year(4);
        x.paper(2, 0, 3);
        x.year(6);
        x.paper(0, 1, 9);
        x.wash(0, 8);
        x.flood(2);
        x.tell(2);
        Checks.row(x, 0, 0, 1, -2, 3, 0, 0, 0, 0, 0, 0);
        Checks.row(x, 1, 1, 300, 0, 8, 1);
        return x;
    }

    /** What it is: "An object is used for at most 512 calls": the last of them is as due. */
    static void the512thCallIsAsDue() {
        NineSmells x = Checks.registered("p900000001;f198765432");
        int calls = 1 + 21 + 1;
        int want = 0;
        while (calls < 511) {
            x.stop(0);
            want = 31 * want + 4;
            calls++;
        }
        C.due("the 512th call", x.trace(), want);
    }

    /** What it is: "An object is used for at most 512 calls": a REGISTER may be made anew by each of the last. */
    static void manyRegistersOfOneObject() {
        NineSmells x = Checks.registered("p000000000;p999999999");
        for (int calls = 1 + 21 + 1; calls < 512; calls += 3) {
            C.due("register behind " + calls + " calls", x.register(3, 2, 0, 21), 2);
            C.due("its first PAPER", x.paper(0, 1, 0), 0);
            C.due("its NEW SMELL", x.fresh(0), 18);
        }
    }

    // ---- REFUSALS

    /**
     * Term REFUSALS: "REFUSALS: UNKNOWN (there is no such SIGN, SMELL, PAPER, SHEET)": below 0, and behind the last.
     */
    static void unknown() {
        NineSmells x = used();
        for (int below : new int[] {-1, Checks.LEAST}) {
            C.due("SIGN", x.ofSign(below, 0), -1);
            C.due("SMELL", x.half(below, 1), -1);
            C.due("PAPER", x.ofPaper(below, 0), -1);
            C.due("SHEET", x.lose(below), -1);
        }
        C.due("SIGN 3", x.ofSign(3, 0), -1);
        C.due("SMELL 9", x.half(9, 1), -1);
        C.due("PAPER 2", x.ofPaper(2, 0), -1);
        C.due("SHEET 4", x.lose(4), -1);
        C.due("SIGN 2", x.ofSign(2, 0), 0);
        C.due("SMELL 8", x.half(8, 1), 5);
        C.due("PAPER 1", x.ofPaper(1, 0), 0);
        C.due("SHEET 3", x.lose(3), 1);
    }

    /** Term REFUSALS: "OUTSIDE (another number is not as told)". */
    static void outside() {
        NineSmells x = used();
        C.due("what", x.ofSign(0, 9), -2);
        C.due("HALF", x.half(0, 10), -2);
        C.due("YEAR", x.year(5), -2);
        C.due("COLD", x.paper(0, 1, 10), -2);
        C.due("flood", x.flood(10), -2);
        C.due("hours", x.near(0, 1, 11, 0), -2);
        C.due("LANE", x.sheet(0, 3, 0), -2);
        C.due("kind", x.as(0, 3), -2);
    }

    /** Term REFUSALS: "STATE (as told)". */
    static void state() {
        NineSmells x = new NineSmells();
        C.due("half", x.half(0, 1), -3);
        C.due("bound", x.bound(0), -3);
        C.due("year", x.year(0), -3);
        C.due("fresh", x.fresh(0), -3);
    }

    /** Term REFUSALS: "FULL". */
    static void full() {
        NineSmells x = Checks.registered(THREE);
        for (int p = 0; p < 8; p++) {
            C.due("paper", x.paper(0, 1, 0), p);
        }
        C.due("a ninth", x.paper(0, 1, 0), -4);
    }

    /** Term REFUSALS: "of several the first in the order in which a call's line tells them". */
    static void firstRefusalOfSeveral() {
        NineSmells none = new NineSmells();
        C.due("half: UNKNOWN, OUTSIDE, STATE", none.half(9, 0), -1);
        C.due("half: OUTSIDE, STATE", none.half(0, 0), -2);
        C.due("bound: OUTSIDE, STATE", none.bound(1000), -2);
        C.due("year: OUTSIDE, STATE", none.year(100), -2);
        C.due("fresh: OUTSIDE, STATE", none.fresh(5), -2);
        NineSmells x = Checks.registered(THREE);
        for (int p = 0; p < 8; p++) {
            x.paper(0, 1, 0);
        }
        C.due("paper: UNKNOWN, OUTSIDE, FULL", x.paper(1, 1, 10), -1);
        C.due("paper: UNKNOWN, FULL", x.paper(1, 3, 0), -1);
        C.due("paper: OUTSIDE, FULL", x.paper(0, 1, 10), -2);
        C.due("ofSign: UNKNOWN, OUTSIDE", x.ofSign(3, 9), -1);
        C.due("faded: UNKNOWN, OUTSIDE", x.faded(0, 9, 1000, 0), -1);
        C.due("ofPaper: UNKNOWN, OUTSIDE", x.ofPaper(8, 6), -1);
        C.due("smells: UNKNOWN, OUTSIDE", x.smells(0, 9, 100), -1);
        C.due("fits: UNKNOWN, OUTSIDE", x.fits(8, 3), -1);
        C.due("near: UNKNOWN, OUTSIDE", x.near(0, 1, 11, 9), -1);
        C.due("as: UNKNOWN, OUTSIDE", x.as(3, 3), -1);
        C.due("register: UNKNOWN, OUTSIDE", x.register(4, 3, 0, 0), -1);
        C.due("forged: UNKNOWN, OUTSIDE", x.forged(0, 1, 4, 3, 0, 0), -1);
        C.due("who: UNKNOWN, OUTSIDE", x.who(4, 4, 3, 0), -1);
        C.due("sheet: UNKNOWN, OUTSIDE", x.sheet(4, 3, 91), -1);
    }

    /** Term REFUSALS: "of several the first", ahead of FAULTS that are told behind them. */
    static void refusalsAheadOfFaults() {
        NineSmells x = used();
        C.due("register: OUTSIDE, NULL", x.register(2, 3, 0, 0), -2);
        C.due("forged: UNKNOWN, CAST", x.forged(0, 0, 0, 1, 0, 0), -1);
        C.due("who: OUTSIDE, NULL", x.who(0, 2, 3, 0), -2);
        C.due("sheet: OUTSIDE, SIZE", x.sheet(0, 3, -1), -2);
        C.due("put: UNKNOWN, INDEX", x.put(4, -1, 0), -1);
        C.due("copy: UNKNOWN, NULL", x.copy(4, 0, 2, 0, 0), -1);
        C.due("as: OUTSIDE, CAST", x.as(0, 3), -2);
        C.dueLost(x, "odds: OUTSIDE, NULL", x.odds(0, 0, 2, 3, 0, 0), 0);
        C.dueLost(x, "cell: OUTSIDE, INDEX", x.cell(0, -1, 3), 0);
    }

    /** Term REFUSALS: "They change nothing", of the first part. */
    static void refusedCallsOfTheRegisterChangeNothing() {
        NineSmells x = used();
        C.due("register(4, 0, 0, 0)", x.register(4, 0, 0, 0), -1);
        C.due("register(0, 3, 0, 0)", x.register(0, 3, 0, 0), -2);
        C.due("register(3, 2, 0, 31)", x.register(3, 2, 0, 31), -131);
        C.due("register(3, 2, 11, 10)", x.register(3, 2, 11, 10), -110);
        C.due("ofSign(3, 0)", x.ofSign(3, 0), -1);
        C.due("ofSign(0, 9)", x.ofSign(0, 9), -2);
        C.due("half(9, 1)", x.half(9, 1), -1);
        C.due("half(0, 10)", x.half(0, 10), -2);
        C.due("half(0, 0)", x.half(0, 0), -2);
        C.due("bound(-1)", x.bound(-1), -2);
        C.due("bound(1000)", x.bound(1000), -2);
        C.due("year(5)", x.year(5), -2);
        C.due("year(100)", x.year(100), -2);
        C.due("faded(3, 0, 0, 0)", x.faded(3, 0, 0, 0), -1);
        C.due("faded(0, 0, 1000, 0)", x.faded(0, 0, 1000, 0), -2);
        C.same("state", Checks.state(x), Checks.state(used()));
    }

    /** Term REFUSALS: "They change nothing", of the second part. */
    static void refusedCallsOfPapersChangeNothing() {
        NineSmells x = used();
        C.due("paper(0, 0, 0)", x.paper(0, 0, 0), -1);
        C.due("paper(0, 3, 0)", x.paper(0, 3, 0), -1);
        C.due("paper(0, 1, 10)", x.paper(0, 1, 10), -2);
        C.due("ofPaper(2, 0)", x.ofPaper(2, 0), -1);
        C.due("ofPaper(0, 6)", x.ofPaper(0, 6), -2);
        C.due("smells(2, 0, 6)", x.smells(2, 0, 6), -1);
        C.due("smells(1, 0, 5)", x.smells(1, 0, 5), -2);
        C.due("wash(2, 0)", x.wash(2, 0), -1);
        C.due("wash(0, 9)", x.wash(0, 9), -1);
        C.due("wash(0, -1)", x.wash(0, -1), -1);
        C.due("flood(0)", x.flood(0), -2);
        C.due("flood(10)", x.flood(10), -2);
        C.due("far(2, 0, 1)", x.far(2, 0, 1), -1);
        C.due("far(0, 1, 1)", x.far(0, 1, 1), -1);
        C.due("fits(2, 0)", x.fits(2, 0), -1);
        C.due("fits(0, 3)", x.fits(0, 3), -2);
        C.due("again(2)", x.again(2), -1);
        C.same("state", Checks.state(x), Checks.state(used()));
    }

    /** Term REFUSALS: "They change nothing", of the third part. */
    static void refusedCallsOfAlikeOnesChangeNothing() {
        NineSmells x = used();
        C.due("apart(3, 0)", x.apart(3, 0), -1);
        C.due("twins(-2)", x.twins(-2), -1);
        C.due("forged(0, 0, 0, 0, 0, 0)", x.forged(0, 0, 0, 0, 0, 0), -1);
        C.due("forged(0, 1, 0, 3, 0, 0)", x.forged(0, 1, 0, 3, 0, 0), -2);
        C.due("forged(0, 1, 0, 0, 0, 1)", x.forged(0, 1, 0, 0, 0, 1), -2);
        C.due("near(3, 0, 0, 0)", x.near(3, 0, 0, 0), -1);
        C.due("near(0, 1, 11, 0)", x.near(0, 1, 11, 0), -2);
        C.due("steals(0, 0)", x.steals(0, 0), -1);
        C.due("fresh(5)", x.fresh(5), -2);
        C.same("state", Checks.state(x), Checks.state(used()));
    }

    /** Term REFUSALS: "They change nothing", of the fourth and the fifth part. */
    static void refusedCallsOfSheetsChangeNothing() {
        NineSmells x = used();
        C.due("who(0, 4, 0, 0)", x.who(0, 4, 0, 0), -1);
        C.due("who(0, 0, 3, 0)", x.who(0, 0, 3, 0), -2);
        C.due("who(4, 0, 0, 0)", x.who(4, 0, 0, 0), -2);
        C.due("sheet(4, 0, 1)", x.sheet(4, 0, 1), -1);
        C.due("sheet(-1, 0, 1)", x.sheet(-1, 0, 1), -1);
        C.due("sheet(0, 3, 1)", x.sheet(0, 3, 1), -2);
        C.due("sheet(0, -1, 1)", x.sheet(0, -1, 1), -2);
        C.due("sheet(0, 0, 91)", x.sheet(0, 0, 91), -2);
        C.due("sheet(2, 0, 91)", x.sheet(2, 0, 91), -2);
        C.due("lose(4)", x.lose(4), -1);
        C.due("lose(-1)", x.lose(-1), -1);
        C.due("put(4, 0, 9)", x.put(4, 0, 9), -1);
        C.due("put(-1, 0, 9)", x.put(-1, 0, 9), -1);
        C.due("copy(4, 0, 0, 0, 1)", x.copy(4, 0, 0, 0, 1), -1);
        C.due("copy(0, 0, 4, 0, 1)", x.copy(0, 0, 4, 0, 1), -1);
        C.due("tell(3)", x.tell(3), -1);
        C.due("tell(-1)", x.tell(-1), -1);
        C.due("stop(3)", x.stop(3), -1);
        C.due("stop(-1)", x.stop(-1), -1);
        C.due("as(3, 0)", x.as(3, 0), -1);
        C.due("as(0, 3)", x.as(0, 3), -2);
        C.due("many(4)", x.many(4), -2);
        C.due("odds(3, 0, 0, 0, 0, 0)", x.odds(3, 0, 0, 0, 0, 0), NineSmells.LOST);
        C.due("odds(0, 4, 0, 0, 0, 0)", x.odds(0, 4, 0, 0, 0, 0), NineSmells.LOST);
        C.due("cell(4, 0, 0)", x.cell(4, 0, 0), NineSmells.LOST);
        C.due("cell(0, 0, 3)", x.cell(0, 0, 3), NineSmells.LOST);
        C.same("state", Checks.state(x), Checks.state(used()));
    }

    /** Term REFUSALS: "They change nothing": a ninth PAPER, and STATE ahead of a REGISTER. */
    static void fullAndStateChangeNothing() {
        NineSmells x = Checks.registered(THREE);
        NineSmells y = Checks.registered(THREE);
        for (int p = 0; p < 8; p++) {
            x.paper(0, 1, p);
            y.paper(0, 1, p);
        }
        C.due("a ninth", x.paper(2, 0, 9), -4);
        C.same("state", Checks.state(x), Checks.state(y));
        NineSmells none = new NineSmells();
        none.half(0, 1);
        none.bound(7);
        none.year(7);
        none.fresh(0);
        C.same("state of none", Checks.state(none), Checks.state(new NineSmells()));
    }

    /** Term REFUSALS: "(but fault(), of a call that names FAULTS)". */
    static void refusedCallsChangeFault() {
        NineSmells x = Checks.faulted(THREE);
        C.due("a FAULT ahead", x.fault(), 3);
        x.lose(4);
        x.tell(3);
        x.half(9, 0);
        C.due("behind calls that name none", x.fault(), 3);
        x.put(4, 0, 0);
        C.due("behind one that names some", x.fault(), 0);
    }

    // ---- FAULTS

    /** Term FAULTS: "FAULTS are the machine's: 1 NULL (there is nothing)", which is no row of no cells. */
    static void nothingIsNull() {
        NineSmells x = Checks.registered(THREE);
        C.dueFault(x, "register", x.register(0, 0, 0, 1), Checks.NULL);
        C.dueFault(x, "forged", x.forged(0, 1, 0, 0, 0, 1), Checks.NULL);
        C.dueLost(x, "odds", x.odds(0, 0, 0, 0, 0, 0), 1);
        C.dueFault(x, "who", x.who(0, 0, 0, 0), Checks.NULL);
        C.dueFault(x, "put", x.put(0, 0, 0), Checks.NULL);
        C.dueLost(x, "cell", x.cell(0, 0, 0), 1);
        C.dueFault(x, "copy from it", x.copy(0, 0, 3, 0, 1), Checks.NULL);
        C.dueFault(x, "copy to it", x.copy(3, 0, 0, 0, 1), Checks.NULL);
        x.sheet(0, 0, 0);
        C.dueFault(x, "put in no cells", x.put(0, 0, 0), Checks.INDEX);
        C.dueLost(x, "cell of no cells", x.cell(0, 0, 0), 3);
        C.dueFault(x, "register of no cells", x.register(0, 0, 0, 0), -100);
    }

    /** Term FAULTS: "2 CAST (it is of another LANE, kind)". */
    static void anotherLaneOrKindIsCast() {
        NineSmells x = used();
        C.dueFault(x, "register", x.register(3, 1, 0, 32), Checks.CAST);
        C.dueFault(x, "forged", x.forged(0, 1, 0, 1, 0, 0), Checks.CAST);
        C.dueLost(x, "odds", x.odds(0, 0, 0, 2, 0, 0), 2);
        C.dueFault(x, "who", x.who(0, 0, 1, 0), Checks.CAST);
        C.dueLost(x, "cell", x.cell(1, 0, 2), 2);
        C.dueFault(x, "copy", x.copy(0, 0, 1, 0, 1), Checks.CAST);
        C.dueFault(x, "as", x.as(0, 1), Checks.CAST);
    }

    /**
     * Term FAULTS: "3 INDEX (of cells from i on also where i is not 0 .. how many there are": ahead of 0, behind
     * that.
     */
    static void cellsBeyondAreIndex() {
        NineSmells x = used();
        C.dueFault(x, "register ahead", x.register(3, 2, -1, 32), Checks.INDEX);
        C.dueFault(x, "register behind", x.register(3, 2, 0, 33), Checks.INDEX);
        C.dueFault(x, "forged ahead", x.forged(0, 1, 1, 1, -1, 1), Checks.INDEX);
        C.dueFault(x, "forged behind", x.forged(0, 1, 1, 1, 3, 1), Checks.INDEX);
        C.dueLost(x, "odds ahead", x.odds(0, 0, 0, 0, -1, 0), 3);
        C.dueLost(x, "odds behind", x.odds(0, 0, 0, 0, 1, 0), 3);
        C.dueFault(x, "who ahead", x.who(0, 0, 0, -1), Checks.INDEX);
        C.dueFault(x, "who behind", x.who(0, 0, 0, 1), Checks.INDEX);
        C.dueFault(x, "put ahead", x.put(0, -1, 0), Checks.INDEX);
        C.dueFault(x, "put behind", x.put(0, 9, 0), Checks.INDEX);
        C.dueLost(x, "cell ahead", x.cell(0, -1, 0), 3);
        C.dueLost(x, "cell behind", x.cell(0, 9, 0), 3);
        C.dueFault(x, "copy ahead", x.copy(0, -1, 0, 0, 1), Checks.INDEX);
        C.dueFault(x, "copy behind", x.copy(0, 0, 0, 9, 1), Checks.INDEX);
    }

    /** Term FAULTS: "where i is not 0 .. how many there are, if none of them is taken, too". */
    static void noneOfCellsBeyondAreIndex() {
        NineSmells x = used();
        C.dueFault(x, "register of none at -1", x.register(3, 2, -1, 0), Checks.INDEX);
        C.dueFault(x, "register of none at 0", x.register(3, 2, 0, 0), -100);
        C.dueFault(x, "register of none at the end", x.register(3, 2, 32, 0), -100);
        C.dueFault(x, "register of none behind it", x.register(3, 2, 33, 0), Checks.INDEX);
        x.bound(0);
        C.dueFault(x, "forged by none at -1", x.forged(0, 1, 1, 1, -1, 0), Checks.INDEX);
        C.dueFault(x, "forged by none at the end", x.forged(0, 1, 1, 1, 4, 0), -9);
        C.dueFault(x, "forged by none behind it", x.forged(0, 1, 1, 1, 5, 0), Checks.INDEX);
        C.dueFault(x, "copy of none from -1", x.copy(1, -1, 1, 0, 0), Checks.INDEX);
        C.dueFault(x, "copy of none to -1", x.copy(1, 0, 1, -1, 0), Checks.INDEX);
        C.dueFault(x, "copy of none at the ends", x.copy(1, 4, 1, 4, 0), 0);
        C.dueFault(x, "copy of none from behind it", x.copy(1, 5, 1, 4, 0), Checks.INDEX);
        C.dueFault(x, "copy of none to behind it", x.copy(1, 4, 1, 5, 0), Checks.INDEX);
    }

    /** Term FAULTS: "4 SIZE (a length below 0)". */
    static void lengthsBelow0AreSize() {
        NineSmells x = used();
        for (int n : new int[] {-1, Checks.LEAST}) {
            C.dueFault(x, "register", x.register(3, 2, 0, n), Checks.SIZE);
            C.dueFault(x, "forged", x.forged(0, 1, 0, 0, 0, n), Checks.SIZE);
            C.dueFault(x, "sheet", x.sheet(0, 0, n), Checks.SIZE);
        }
        C.dueFault(x, "a length of 0 is none", x.sheet(0, 0, 0), 1);
    }

    /** Term FAULTS: "Of a call the first that is come to, in the order told". */
    static void firstFaultOfSeveral() {
        NineSmells x = used();
        C.dueFault(x, "register: CAST, SIZE, INDEX", x.register(3, 1, -1, -1), Checks.CAST);
        C.dueFault(x, "register: NULL, SIZE, INDEX", x.register(2, 1, -1, -1), Checks.NULL);
        C.dueFault(x, "register: SIZE, INDEX", x.register(3, 2, -1, -1), Checks.SIZE);
        C.dueFault(x, "register: INDEX, FIRST FAULT", x.register(0, 0, 0, 10), Checks.INDEX);
        C.dueFault(x, "forged: CAST, SIZE, INDEX", x.forged(0, 1, 0, 1, -1, -1), Checks.CAST);
        C.dueFault(x, "forged: NULL, SIZE, INDEX", x.forged(0, 1, 2, 1, -1, -1), Checks.NULL);
        C.dueFault(x, "forged: SIZE, INDEX", x.forged(0, 1, 0, 0, -1, -1), Checks.SIZE);
        C.dueFault(x, "forged: INDEX, OUTSIDE", x.forged(0, 1, 0, 0, 0, 11), Checks.INDEX);
        C.dueLost(x, "odds: CAST, INDEX, OUTSIDE", x.odds(0, 4, 0, 1, -1, 2), 2);
        C.dueLost(x, "odds: NULL, INDEX, OUTSIDE", x.odds(0, 4, 2, 1, -1, 2), 1);
        C.dueLost(x, "odds: INDEX, OUTSIDE", x.odds(0, 4, 0, 0, -1, 2), 3);
        C.dueFault(x, "who: CAST, INDEX, OUTSIDE", x.who(4, 0, 1, -1), Checks.CAST);
        C.dueFault(x, "who: NULL, INDEX, OUTSIDE", x.who(4, 2, 1, -1), Checks.NULL);
        C.dueFault(x, "who: INDEX, OUTSIDE", x.who(4, 0, 0, -1), Checks.INDEX);
        C.dueFault(x, "put: NULL, INDEX", x.put(2, -1, 0), Checks.NULL);
        C.dueLost(x, "cell: CAST, INDEX", x.cell(0, -1, 1), 2);
        C.dueLost(x, "cell: NULL, INDEX", x.cell(2, -1, 1), 1);
        C.dueFault(x, "copy: NULL, INDEX", x.copy(2, -1, 0, -1, -1), Checks.NULL);
        C.dueFault(x, "copy: CAST, INDEX", x.copy(0, -1, 1, -1, -1), Checks.CAST);
    }

    /** Term FAULTS: "it answers -10 less it". */
    static void faultsAreAnswered() {
        NineSmells x = used();
        C.due("1 NULL", x.put(2, 0, 0), -11);
        C.due("2 CAST", x.as(0, 1), -12);
        C.due("3 INDEX", x.put(0, 9, 0), -13);
        C.due("4 SIZE", x.sheet(0, 0, -1), -14);
    }

    /** Term FAULTS: "(LOST, where a long is answered, as for refusals)". */
    static void lostWhereALongIsAnswered() {
        NineSmells x = used();
        C.due("LOST", NineSmells.LOST, Long.MIN_VALUE);
        C.dueLost(x, "cell, refused", x.cell(4, 0, 0), 0);
        C.dueLost(x, "cell, NULL", x.cell(2, 0, 0), 1);
        C.dueLost(x, "cell, CAST", x.cell(0, 0, 1), 2);
        C.dueLost(x, "cell, INDEX", x.cell(0, 9, 0), 3);
        C.dueLost(x, "odds, refused", x.odds(3, 0, 0, 0, 0, 0), 0);
        C.dueLost(x, "odds, NULL", x.odds(0, 0, 2, 0, 0, 0), 1);
        C.dueLost(x, "odds, CAST", x.odds(0, 0, 0, 1, 0, 0), 2);
        C.dueLost(x, "odds, INDEX", x.odds(0, 0, 0, 0, 9, 0), 3);
        C.dueLost(x, "odds, a number", x.odds(0, 0, 0, 0, 0, 0), 0);
        x.put(0, 1, 0);
        x.bound(0);
        C.dueLost(x, "odds, STATE", x.odds(0, 0, 0, 0, 0, 0), 0);
        C.dueFault(x, "a cell may be least", x.sheet(2, 2, 1), 1);
        x.put(2, 0, Checks.LEAST);
        C.due("and is told", x.cell(2, 0, 2), Checks.LEAST);
        C.due("fault() behind it", x.fault(), 0);
    }

    /** Term FAULTS: "and changes nothing". */
    static void faultyCallsChangeNothing() {
        NineSmells x = used();
        C.due("register(2, 0, 0, 1)", x.register(2, 0, 0, 1), -11);
        C.due("register(3, 1, 0, 32)", x.register(3, 1, 0, 32), -12);
        C.due("register(3, 2, 1, 32)", x.register(3, 2, 1, 32), -13);
        C.due("register(3, 2, 0, -1)", x.register(3, 2, 0, -1), -14);
        C.due("forged(0, 1, 2, 0, 0, 0)", x.forged(0, 1, 2, 0, 0, 0), -11);
        C.due("forged(0, 1, 0, 1, 0, 0)", x.forged(0, 1, 0, 1, 0, 0), -12);
        C.due("forged(0, 1, 0, 0, 0, 5)", x.forged(0, 1, 0, 0, 0, 5), -13);
        C.due("forged(0, 1, 0, 0, 0, -1)", x.forged(0, 1, 0, 0, 0, -1), -14);
        C.due("who(0, 2, 0, 0)", x.who(0, 2, 0, 0), -11);
        C.due("who(0, 0, 1, 0)", x.who(0, 0, 1, 0), -12);
        C.due("who(0, 0, 0, 1)", x.who(0, 0, 0, 1), -13);
        C.due("sheet(0, 2, -1)", x.sheet(0, 2, -1), -14);
        C.due("sheet(2, 2, -1)", x.sheet(2, 2, -1), -14);
        C.due("put(2, 0, 1)", x.put(2, 0, 1), -11);
        C.due("put(0, -1, 1)", x.put(0, -1, 1), -13);
        C.due("put(0, 9, 1)", x.put(0, 9, 1), -13);
        C.due("copy(0, 0, 2, 0, 1)", x.copy(0, 0, 2, 0, 1), -11);
        C.due("copy(2, 0, 0, 0, 1)", x.copy(2, 0, 0, 0, 1), -11);
        C.due("copy(0, 0, 1, 0, 1)", x.copy(0, 0, 1, 0, 1), -12);
        C.due("copy(1, 0, 0, 0, 1)", x.copy(1, 0, 0, 0, 1), -12);
        C.due("copy(0, 0, 0, 1, 9)", x.copy(0, 0, 0, 1, 9), -13);
        C.due("copy(0, 1, 0, 0, 9)", x.copy(0, 1, 0, 0, 9), -13);
        C.due("copy(0, 2, 0, 3, -1)", x.copy(0, 2, 0, 3, -1), -13);
        C.due("as(0, 1)", x.as(0, 1), -12);
        C.due("as(1, 2)", x.as(1, 2), -12);
        C.due("odds(0, 0, 2, 0, 0, 0)", x.odds(0, 0, 2, 0, 0, 0), NineSmells.LOST);
        C.due("cell(0, 9, 0)", x.cell(0, 9, 0), NineSmells.LOST);
        C.same("state", Checks.state(x), Checks.state(used()));
    }

    /** Term FAULTS: "fault() tells it". */
    static void faultTellsIt() {
        NineSmells x = used();
        x.put(2, 0, 0);
        C.due("1 NULL", x.fault(), 1);
        x.as(0, 1);
        C.due("2 CAST", x.fault(), 2);
        x.put(0, 9, 0);
        C.due("3 INDEX", x.fault(), 3);
        x.sheet(0, 0, -1);
        C.due("4 SIZE", x.fault(), 4);
    }

    // ---- NONE, sets, quotients, shares

    /** Term NONE: "NONE is -9.". */
    static void none() {
        NineSmells x = Checks.registered("s900000000;s090000000");
        x.bound(0);
        x.paper(0, 1, 0);
        x.sheet(0, 0, 9);
        C.due("NONE", NineSmells.NONE, -9);
        C.due("again", x.again(0), -9);
        C.due("twins", x.twins(0), -9);
        C.due("forged", x.forged(0, 1, 0, 0, 0, 0), -9);
        C.due("who", x.who(0, 0, 0, 0), -9);
    }

    /** Term Sets: "Sets are told as bits (bit k for number k).": the first, the last. */
    static void setsAreBits() {
        NineSmells x = Checks.registered("s900000000;s090000000");
        x.paper(0, 1, 0);
        x.wash(0, 0);
        C.due("WASHED of 0", x.ofPaper(0, 4), 1);
        x.wash(0, 8);
        C.due("WASHED of 0 and 8", x.ofPaper(0, 4), 257);
        x.bound(0);
        for (int p = 1; p <= 7; p++) {
            x.paper(0, 1, p == 7 ? 0 : 1);
        }
        C.due("PAPER 7 is PROVED", x.proved(), 128);
        Checks.row(x, 0, 0, 0, 1, 0, 1, 0, 1, 0, 1, 0, 1, 0, 1, 0, 1, 0, 1, 0, 1, 8, 8);
        Checks.enter(x, "p000000000;p000000008");
        x.bound(0);
        C.due("FORGED by STOPPER 9", x.forged(0, 1, 0, 0, 0, 10), 512);
    }

    /** Term Quotients: "Quotients are cut.". */
    static void quotientsAreCut() {
        NineSmells x = Checks.registered("p100000000;f900000000;p000000000");
        x.bound(15);
        C.due("BOUND 15 by 8 is 1", x.twins(-1), 1);
        x.bound(16);
        C.due("BOUND 16 by 8 is 2", x.twins(-1), 1);
        x.bound(63);
        C.due("BOUND 63 by 8 is 7", x.twins(-1), 1);
        x.bound(64);
        C.due("BOUND 64 by 8 is 8", x.twins(-1), 2);
        C.due("8 times 9 by 10 is 7", x.near(0, 1, 9, 0), 8);
        C.due("-8 times 9 by 10 is -7", x.near(1, 0, 9, 0), 2);
        C.due("half of 1 is 0", x.faded(0, 0, 1, 5), 0);
        C.due("half of 999 is 499", x.faded(0, 0, 999, 5), 499);
    }

    /** Term Shares: "Shares are told as upper and lower number (above 0) in least terms.". */
    static void sharesAreInLeastTerms() {
        NineSmells x = Checks.registered("s000000000;s000000000;s000000000;s900000000");
        x.bound(0);
        x.sheet(0, 0, 9);
        C.due("10 by 30, upper", x.odds(2, 0, 0, 0, 0, 0), 1);
        C.due("10 by 30, lower", x.odds(2, 0, 0, 0, 0, 1), 3);
        C.due("0 by 30, upper", x.odds(3, 0, 0, 0, 0, 0), 0);
        C.due("0 by 30, lower", x.odds(3, 0, 0, 0, 0, 1), 1);
        Checks.enter(x, "s000000000;s900000000");
        x.bound(0);
        C.due("10 by 10, upper", x.odds(0, 0, 0, 0, 0, 0), 1);
        C.due("10 by 10, lower", x.odds(0, 0, 0, 0, 0, 1), 1);
        Checks.enter(x, "s000000000;p900000000");
        x.half(0, 2);
        x.bound(9);
        // 72 is 4 in hours 8 and 9, 9 in 6 and 7: 10 and 4.
        C.due("10 by 14, upper", x.odds(0, 0, 0, 0, 0, 0), 5);
        C.due("10 by 14, lower", x.odds(0, 0, 0, 0, 0, 1), 7);
        C.due("4 by 14, upper", x.odds(1, 0, 0, 0, 0, 0), 2);
        C.due("4 by 14, lower", x.odds(1, 0, 0, 0, 0, 1), 7);
    }
}
