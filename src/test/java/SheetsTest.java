/** Promises 25 to 34, and the terms of part 5: SHEETS, bodies, FAULTS. */
public final class SheetsTest {
    private static final Checks C = new Checks("SheetsTest");
    /** A PERSON, a FIELD and a SEAL. */
    private static final String THREE = "p400000000;f700000009;s600000000";
    private static final int[] NO_SHEET = {-1, 4, Checks.LEAST, Checks.MOST};
    private static final int[] NO_LANE = {-1, 3, Checks.LEAST, Checks.MOST};
    private static final int[] NO_SIGN = {-1, 3, Checks.LEAST, Checks.MOST};

    public static void main(String[] args) {
        C.run(SheetsTest.class);
    }

    // ---- the terms: SHEETS

    /** Term SHEETS: "SHEETS 0 .. 3 have nothing (at first)". */
    static void sheetsHaveNothingAtFirst() {
        NineSmells x = new NineSmells();
        for (int k = 0; k <= 3; k++) {
            C.dueLost(x, "cell of " + k, x.cell(k, 0, 0), 1);
            C.due("lose(" + k + ")", x.lose(k), 0);
        }
        C.due("there is no sheet -1", x.lose(-1), -1);
        C.due("there is no sheet 4", x.lose(4), -1);
    }

    /** Term SHEETS: "or a row of 0 .. 90 numbers": of none, which is not nothing. */
    static void sheetOfNoNumbers() {
        NineSmells x = new NineSmells();
        C.dueFault(x, "sheet(3, 2, 0)", x.sheet(3, 2, 0), 1);
        C.dueLost(x, "its first cell", x.cell(3, 0, 2), 3);
        C.dueFault(x, "put", x.put(3, 0, 0), Checks.INDEX);
        C.due("it had a row", x.lose(3), 1);
    }

    /** Term SHEETS: "or a row of 0 .. 90 numbers": of 90 in each LANE, of each SHEET. */
    static void sheetsOf90Numbers() {
        NineSmells x = new NineSmells();
        for (int k = 0; k <= 3; k++) {
            int lane = k % 3;
            C.dueFault(x, "sheet " + k, x.sheet(k, lane, 90), 1);
            C.dueFault(x, "its last cell", x.put(k, 89, 100 + k), 1);
            C.dueFault(x, "behind it", x.put(k, 90, 0), Checks.INDEX);
        }
        for (int k = 0; k <= 3; k++) {
            C.due("last cell of " + k, x.cell(k, 89, k % 3), 100 + k);
        }
    }

    /** Term SHEETS: "(0 at first)", though the row ahead of it had others. */
    static void cellsAre0AtFirst() {
        NineSmells x = new NineSmells();
        for (int lane = 0; lane <= 2; lane++) {
            x.sheet(0, lane, 30);
            for (int i = 0; i < 30; i++) {
                C.due("cell " + i, x.cell(0, i, lane), 0);
                x.put(0, i, 7);
            }
        }
        x.sheet(0, 2, 1);
        x.sheet(0, 2, 30);
        C.due("its first cell", x.cell(0, 0, 2), 0);
        C.due("its last cell", x.cell(0, 29, 2), 0);
        x.put(0, 3, 7);
        x.lose(0);
        x.sheet(0, 2, 30);
        C.due("lost between", x.cell(0, 3, 2), 0);
        x.sheet(1, 0, 90);
        x.put(1, 0, 7);
        x.put(1, 89, 7);
        x.sheet(1, 0, 90);
        C.due("the first of 90", x.cell(1, 0, 0), 0);
        C.due("the last of 90", x.cell(1, 89, 0), 0);
    }

    /**
     * Term SHEETS: "of a LANE: 0 bytes, 1 shorts, 2 ints; what comes to a cell of it is cut to its LANE",
     * "(with its sign).": the ends of each LANE, and what is just beyond them.
     */
    static void cellsAreCut() {
        NineSmells x = new NineSmells();
        int[] numbers = {0, 127, 128, 255, 256, -1, -128, -129, 32767, 32768, 65535, 65536, -32768, -32769, 70001,
            -40000, Checks.MOST, Checks.LEAST};
        int[] bytes = {0, 127, -128, -1, 0, -1, -128, 127, -1, 0, -1, 0, 0, -1, 113, -64, -1, 0};
        int[] shorts = {0, 127, 128, 255, 256, -1, -128, -129, 32767, -32768, -1, 0, -32768, 32767, 4465, 25536, -1, 0};
        for (int lane = 0; lane <= 2; lane++) {
            int[] want = lane == 0 ? bytes : lane == 1 ? shorts : numbers;
            x.sheet(lane, lane, numbers.length);
            for (int i = 0; i < numbers.length; i++) {
                x.put(lane, i, numbers[i]);
                C.due("cell of " + numbers[i] + ", lane " + lane, x.cell(lane, i, lane), want[i]);
            }
        }
    }

    /** Term SHEETS: "is cut to its LANE (with its sign)": and so are those that register, forged and who take. */
    static void whatIsCutIsTaken() {
        NineSmells x = Checks.registered(THREE);
        Checks.write(x, 0, 0, 0, "p000000000;s900000000");
        x.put(0, 0, 'p' + 256);
        C.dueFault(x, "register", x.register(0, 0, 0, 21), 2);
        x.bound(0);
        Checks.row(x, 1, 1, 65536, 65536 + 9);
        C.dueFault(x, "forged", x.forged(0, 1, 1, 1, 0, 1), 1);
        Checks.row(x, 2, 0, 72 + 256, 0, 0, 0, 0, 0, 0, 0, -256);
        C.dueFault(x, "who", x.who(0, 2, 0, 0), 1);
    }

    // ---- the terms: bodies and TRACE

    /** Term TRACE: "(an int that wraps, 0 at first": below 0, and above again. */
    static void traceWraps() {
        NineSmells x = Checks.registered(THREE);
        C.due("trace() at first", x.trace(), 0);
        int want = 0;
        boolean wasBelow = false;
        boolean wasAboveAgain = false;
        for (int k = 0; k < 30; k++) {
            x.stop(0);
            want = 31 * want + 4;
            wasAboveAgain |= wasBelow && want > 0;
            wasBelow |= want < 0;
            C.due("trace " + k, x.trace(), want);
        }
        C.due("it wraps", wasBelow && wasAboveAgain ? 1 : 0, 1);
    }

    /**
     * Term TRACE: "TELLING of SIGNS by bodies that leave their number in TRACE", which
     * "becomes 31 times it and the number) as they begin": of all bodies, one behind the other.
     */
    static void traceOfAllBodies() {
        NineSmells x = Checks.registered(THREE);
        x.stop(0);
        C.due("4", x.trace(), 4);
        x.stop(2);
        C.due("5", x.trace(), 4 * 31 + 5);
        x.tell(0);
        C.due("1", x.trace(), (4 * 31 + 5) * 31 + 1);
        x.tell(1);
        C.due("2, 1", x.trace(), (((4 * 31 + 5) * 31 + 1) * 31 + 2) * 31 + 1);
    }

    /** Term TELLING: "PERSON (1): STRENGTH of SMELL 0.": 0 and 9. */
    static void personTells() {
        NineSmells x = Checks.registered("p900000000;p099999999");
        C.due("9", x.tell(0), 9);
        C.due("trace", x.trace(), 1);
        C.due("0", x.tell(1), 0);
        C.due("trace", x.trace(), 32);
    }

    /** Term TELLING: "FIELD (2): what PERSON's gives, and 100.". */
    static void fieldTells() {
        NineSmells x = Checks.registered("f900000000;f099999999");
        C.due("9", x.tell(0), 109);
        C.due("trace", x.trace(), 2 * 31 + 1);
        C.due("0", x.tell(1), 100);
    }

    /** Term TELLING: "SEAL (3): what FIELD's gives, and what PERSON's gives (FIELD's left out).". */
    static void sealTells() {
        NineSmells x = Checks.registered("s900000000;s099999999");
        C.due("9", x.tell(0), 118);
        C.due("trace", x.trace(), ((3 * 31 + 2) * 31 + 1) * 31 + 1);
        C.due("0", x.tell(1), 100);
    }

    /** Term STOPPED: "STOPPED by a lent body (4): the number of that SIGN": the first, the last. */
    static void stoppedByALentBody() {
        NineSmells x = Checks.registered("p000000000;f000000000;p000000000;p000000000;"
            + "p000000000;p000000000;p000000000;f000000000");
        C.due("the first", x.stop(0), 0);
        C.due("trace", x.trace(), 4);
        C.due("the last", x.stop(7), 7);
        C.due("trace", x.trace(), 4 * 31 + 4);
    }

    /** Term STOPPED: "SEALS have their own (5): 90.". */
    static void stoppedByTheirOwn() {
        NineSmells x = Checks.registered("s000000000;s900000000");
        C.due("the first", x.stop(0), 90);
        C.due("trace", x.trace(), 5);
        C.due("the other one", x.stop(1), 90);
        C.due("trace", x.trace(), 5 * 31 + 5);
    }

    // ---- sheet, lose, put, cell

    /** Promise 25: "A SHEET gets a new row: 1.": instead of nothing, of another LANE, of another length. */
    static void sheet() {
        NineSmells x = new NineSmells();
        C.dueFault(x, "a row", x.sheet(0, 0, 8), 1);
        x.put(0, 5, 77);
        C.dueFault(x, "of another LANE", x.sheet(0, 1, 6), 1);
        C.due("of zeros", x.cell(0, 5, 1), 0);
        C.dueLost(x, "not as it was", x.cell(0, 5, 0), 2);
        C.dueLost(x, "shorter", x.cell(0, 6, 1), 3);
        C.dueFault(x, "longer", x.sheet(0, 1, 7), 1);
        C.due("of zeros too", x.cell(0, 6, 1), 0);
        C.dueLost(x, "the others have nothing", x.cell(1, 0, 1), 1);
    }

    /** Promise 25: "UNKNOWN", ahead of OUTSIDE and SIZE. */
    static void sheetUnknown() {
        NineSmells x = Checks.faulted(THREE);
        for (int k : NO_SHEET) {
            C.dueFault(x, "sheet " + k, x.sheet(k, 0, 1), -1);
            C.dueFault(x, "sheet " + k + ", lane too", x.sheet(k, 3, 1), -1);
            C.dueFault(x, "sheet " + k + ", SIZE too", x.sheet(k, 0, -1), -1);
            C.dueFault(x, "sheet " + k + ", n too", x.sheet(k, 0, 91), -1);
        }
    }

    /** Promise 25: "OUTSIDE: lane", ahead of SIZE. */
    static void sheetOfNoLane() {
        NineSmells x = Checks.faulted(THREE);
        for (int lane : NO_LANE) {
            C.dueFault(x, "lane " + lane, x.sheet(1, lane, 1), -2);
            C.dueFault(x, "lane " + lane + ", SIZE too", x.sheet(1, lane, -1), -2);
        }
        C.due("it has nothing still", x.lose(1), 0);
    }

    /** Promise 25: "n above 90": OUTSIDE. */
    static void sheetOfTooMany() {
        NineSmells x = Checks.faulted(THREE);
        for (int n : new int[] {91, 1000, Checks.MOST}) {
            C.dueFault(x, "n " + n, x.sheet(1, 0, n), -2);
        }
        C.due("it has nothing still", x.lose(1), 0);
        C.dueFault(x, "n 90", x.sheet(1, 0, 90), 1);
    }

    /** Promise 25: "SIZE.": a length below 0; the row stays as it was. */
    static void sheetOfSizeBelow0() {
        NineSmells x = new NineSmells();
        Checks.row(x, 0, 0, 1, 2);
        for (int n : new int[] {-1, -90, Checks.LEAST}) {
            C.dueFault(x, "n " + n, x.sheet(0, 1, n), Checks.SIZE);
            C.dueFault(x, "n " + n + ", of nothing", x.sheet(1, 1, n), Checks.SIZE);
        }
        C.same("it is as it was", Checks.cells(x, 0, 0), " 1 2 fault 3");
        C.due("it has nothing still", x.lose(1), 0);
    }

    /** Promise 26: "A SHEET has nothing: 1": a row of no numbers is lost too. */
    static void lose() {
        NineSmells x = new NineSmells();
        x.sheet(0, 0, 0);
        x.sheet(1, 0, 2);
        x.sheet(3, 2, 90);
        C.due("lose(0)", x.lose(0), 1);
        C.due("lose(3)", x.lose(3), 1);
        C.dueFault(x, "put", x.put(3, 0, 1), Checks.NULL);
        C.due("another one stays", x.cell(1, 1, 0), 0);
    }

    /** Promise 26: "0: it had nothing". */
    static void loseNothing() {
        NineSmells x = new NineSmells();
        C.due("never had", x.lose(0), 0);
        x.sheet(0, 0, 1);
        C.due("had a row", x.lose(0), 1);
        C.due("lost it", x.lose(0), 0);
        C.dueFault(x, "it has nothing still", x.put(0, 0, 1), Checks.NULL);
    }

    /** Promise 26: "UNKNOWN". */
    static void loseUnknown() {
        NineSmells x = new NineSmells();
        for (int k : NO_SHEET) {
            C.due("lose(" + k + ")", x.lose(k), -1);
        }
    }

    /** Promise 27: "Cell i of a SHEET becomes v: 1.": the first, the last, and no other one. */
    static void put() {
        NineSmells x = new NineSmells();
        x.sheet(0, 0, 3);
        x.sheet(1, 0, 3);
        C.dueFault(x, "the first", x.put(0, 0, 5), 1);
        C.dueFault(x, "the last", x.put(0, 2, -6), 1);
        C.same("its cells", Checks.cells(x, 0, 0), " 5 0 -6 fault 3");
        C.same("cells of another one", Checks.cells(x, 1, 0), " 0 0 0 fault 3");
        C.dueFault(x, "the first again", x.put(0, 0, 7), 1);
        C.same("its cells", Checks.cells(x, 0, 0), " 7 0 -6 fault 3");
    }

    /** Promise 27: "UNKNOWN", ahead of NULL and INDEX. */
    static void putUnknown() {
        NineSmells x = Checks.faulted(THREE);
        for (int k : NO_SHEET) {
            C.dueFault(x, "sheet " + k, x.put(k, 0, 0), -1);
            C.dueFault(x, "sheet " + k + ", INDEX too", x.put(k, -1, 0), -1);
        }
    }

    /** Promise 27: "NULL", ahead of INDEX. */
    static void putInNothing() {
        NineSmells x = new NineSmells();
        C.dueFault(x, "never had", x.put(3, 0, 0), Checks.NULL);
        C.dueFault(x, "INDEX too", x.put(3, -1, 0), Checks.NULL);
        x.sheet(3, 0, 5);
        x.lose(3);
        C.dueFault(x, "lost", x.put(3, 0, 0), Checks.NULL);
        C.dueFault(x, "lost, INDEX too", x.put(3, 5, 0), Checks.NULL);
    }

    /** Promise 27: "INDEX.": it changes nothing. */
    static void putBeyond() {
        NineSmells x = new NineSmells();
        Checks.row(x, 0, 1, 1, 2);
        for (int i : new int[] {-1, 2, 90, Checks.LEAST, Checks.MOST}) {
            C.dueFault(x, "i " + i, x.put(0, i, 7), Checks.INDEX);
        }
        C.same("its cells", Checks.cells(x, 0, 1), " 1 2 fault 3");
        x.sheet(0, 1, 90);
        x.sheet(0, 1, 2);
        C.dueFault(x, "behind a shorter row", x.put(0, 2, 7), Checks.INDEX);
    }

    /** Promise 28: "Cell i of what a SHEET has, taken as a row of a LANE.": the first, the last, least, most. */
    static void cell() {
        NineSmells x = new NineSmells();
        Checks.row(x, 0, 0, -128, 0, 127);
        Checks.row(x, 1, 1, -32768, 0, 32767);
        Checks.row(x, 2, 2, Checks.LEAST, 0, Checks.MOST);
        C.same("bytes", Checks.cells(x, 0, 0), " -128 0 127 fault 3");
        C.same("shorts", Checks.cells(x, 1, 1), " -32768 0 32767 fault 3");
        C.same("ints", Checks.cells(x, 2, 2), " -2147483648 0 2147483647 fault 3");
        C.due("cell(2, 0, 2)", x.cell(2, 0, 2), Checks.LEAST);
        C.due("fault()", x.fault(), 0);
    }

    /** Promise 28: "LOST: UNKNOWN", ahead of all others. */
    static void cellUnknown() {
        NineSmells x = Checks.faulted(THREE);
        for (int k : NO_SHEET) {
            C.dueLost(x, "sheet " + k, x.cell(k, 0, 0), 0);
            C.dueLost(x, "sheet " + k + ", all others too", x.cell(k, -1, 3), 0);
        }
    }

    /** Promise 28: "OUTSIDE: lane", ahead of the FAULTS. */
    static void cellOfNoLane() {
        NineSmells x = Checks.faulted(THREE);
        for (int lane : NO_LANE) {
            C.dueLost(x, "lane " + lane, x.cell(0, 0, lane), 0);
            C.dueLost(x, "lane " + lane + ", INDEX too", x.cell(0, -1, lane), 0);
            C.dueLost(x, "lane " + lane + ", NULL too", x.cell(1, 0, lane), 0);
        }
    }

    /** Promise 28: "FAULTS CAST", ahead of INDEX. */
    static void cellOfAnotherLane() {
        NineSmells x = new NineSmells();
        for (int has = 0; has <= 2; has++) {
            x.sheet(has, has, 1);
            for (int lane = 0; lane <= 2; lane++) {
                if (lane != has) {
                    C.dueLost(x, has + " as " + lane, x.cell(has, 0, lane), 2);
                    C.dueLost(x, has + " as " + lane + ", INDEX too", x.cell(has, 1, lane), 2);
                }
            }
            C.due(has + " as it is", x.cell(has, 0, has), 0);
        }
    }

    /** Promise 28: "(nothing is no CAST)", whatever it had. */
    static void cellOfNothingIsNoCast() {
        NineSmells x = new NineSmells();
        for (int had = 0; had <= 2; had++) {
            x.sheet(had, had, 1);
            x.lose(had);
            for (int lane = 0; lane <= 2; lane++) {
                C.dueLost(x, "had " + had + ", as " + lane, x.cell(had, 0, lane), 1);
                C.dueLost(x, "never had, as " + lane, x.cell(3, 0, lane), 1);
            }
        }
    }

    /** Promise 28: "NULL", ahead of INDEX. */
    static void cellOfNothing() {
        NineSmells x = new NineSmells();
        C.dueLost(x, "nothing", x.cell(0, 0, 0), 1);
        C.dueLost(x, "INDEX too", x.cell(0, -1, 0), 1);
        C.dueLost(x, "INDEX too", x.cell(0, 90, 0), 1);
    }

    /** Promise 28: "INDEX.". */
    static void cellBeyond() {
        NineSmells x = new NineSmells();
        x.sheet(0, 1, 90);
        x.sheet(0, 1, 3);
        C.due("the last", x.cell(0, 2, 1), 0);
        for (int i : new int[] {-1, 3, 90, Checks.LEAST, Checks.MOST}) {
            C.dueLost(x, "i " + i, x.cell(0, i, 1), 3);
        }
    }

    // ---- copy

    /** Promise 29: "n cells of a SHEET from i on go to another one": n, and no others. */
    static void copy() {
        for (int lane = 0; lane <= 2; lane++) {
            NineSmells x = new NineSmells();
            Checks.row(x, 0, lane, 1, 2, 3, 4);
            Checks.row(x, 3, lane, 9, 9, 9);
            C.dueFault(x, "two", x.copy(0, 1, 3, 0, 2), 2);
            C.same("the other", Checks.cells(x, 3, lane), " 2 3 9 fault 3");
            C.dueFault(x, "the last", x.copy(0, 3, 3, 2, 1), 1);
            C.same("the other", Checks.cells(x, 3, lane), " 2 3 4 fault 3");
            C.dueFault(x, "all that there is room for", x.copy(0, 0, 3, 0, 3), 3);
            C.same("the other", Checks.cells(x, 3, lane), " 1 2 3 fault 3");
            x.put(3, 0, 50);
            C.same("the first stays", Checks.cells(x, 0, lane), " 1 2 3 4 fault 3");
        }
    }

    /** Promise 29: "from j on": 90 cells, and each place of the other one. */
    static void copyOf90() {
        NineSmells x = new NineSmells();
        x.sheet(0, 2, 90);
        x.sheet(1, 2, 90);
        for (int i = 0; i < 90; i++) {
            x.put(0, i, 1000 + i);
        }
        C.dueFault(x, "all", x.copy(0, 0, 1, 0, 90), 90);
        for (int i = 0; i < 90; i++) {
            C.due("cell " + i, x.cell(1, i, 2), 1000 + i);
        }
        C.dueFault(x, "one to the end", x.copy(0, 0, 1, 89, 1), 1);
        C.due("last cell", x.cell(1, 89, 2), 1000);
    }

    /** Promise 29: "n cells": none, from and to each place, the ends too. */
    static void copyOfNone() {
        NineSmells x = new NineSmells();
        Checks.row(x, 0, 1, 1, 2);
        Checks.row(x, 1, 1, 9);
        for (int i = 0; i <= 2; i++) {
            for (int j = 0; j <= 1; j++) {
                C.dueFault(x, "from " + i + " to " + j, x.copy(0, i, 1, j, 0), 0);
            }
        }
        x.sheet(2, 1, 0);
        C.dueFault(x, "of a row of none", x.copy(2, 0, 1, 1, 0), 0);
        C.dueFault(x, "to a row of none", x.copy(0, 2, 2, 0, 0), 0);
        C.same("nothing is changed", Checks.cells(x, 1, 1), " 9 fault 3");
    }

    /** Promise 29: "(perhaps the same)", "as they were": to cells that are copied, too. */
    static void copyWithinOne() {
        NineSmells x = new NineSmells();
        Checks.row(x, 0, 0, 1, 2, 3, 4, 5);
        C.dueFault(x, "one on", x.copy(0, 0, 0, 1, 4), 4);
        C.same("as they were", Checks.cells(x, 0, 0), " 1 1 2 3 4 fault 3");
        C.dueFault(x, "two back", x.copy(0, 2, 0, 0, 3), 3);
        C.same("as they were", Checks.cells(x, 0, 0), " 2 3 4 3 4 fault 3");
        C.dueFault(x, "to itself", x.copy(0, 0, 0, 0, 5), 5);
        C.same("as they were", Checks.cells(x, 0, 0), " 2 3 4 3 4 fault 3");
    }

    /** Promise 29: "as they were: n": of which cells they were, not of which they become. */
    static void copyAsTheyWere() {
        NineSmells x = new NineSmells();
        Checks.row(x, 0, 2, 1, 2, 3);
        C.dueFault(x, "on", x.copy(0, 0, 0, 1, 2), 2);
        C.same("as they were", Checks.cells(x, 0, 2), " 1 1 2 fault 3");
        Checks.row(x, 1, 0, -128, 127);
        Checks.row(x, 2, 0, 0, 0);
        C.dueFault(x, "least and most", x.copy(1, 0, 2, 0, 2), 2);
        C.same("as they were", Checks.cells(x, 2, 0), " -128 127 fault 3");
    }

    /** Promise 29: "UNKNOWN", of the first or the other, ahead of the FAULTS. */
    static void copyUnknown() {
        NineSmells x = Checks.faulted(THREE);
        for (int k : NO_SHEET) {
            C.dueFault(x, "from " + k, x.copy(k, 0, 0, 0, 0), -1);
            C.dueFault(x, "to " + k, x.copy(0, 0, k, 0, 0), -1);
            C.dueFault(x, "from " + k + " to nothing", x.copy(k, -1, 1, -1, -1), -1);
            C.dueFault(x, "from nothing to " + k, x.copy(1, -1, k, -1, -1), -1);
        }
    }

    /** Promise 29: "FAULTS NULL (the first, the other)", ahead of CAST and INDEX. */
    static void copyOfNothing() {
        NineSmells x = new NineSmells();
        x.sheet(2, 2, 3);
        C.dueFault(x, "from nothing", x.copy(0, 0, 2, 0, 1), Checks.NULL);
        C.dueFault(x, "to nothing", x.copy(2, 0, 0, 0, 1), Checks.NULL);
        C.dueFault(x, "from nothing to nothing", x.copy(0, 0, 1, 0, 1), Checks.NULL);
        C.dueFault(x, "within nothing", x.copy(0, 0, 0, 0, 0), Checks.NULL);
        C.dueFault(x, "from nothing, INDEX too", x.copy(0, -1, 2, -1, -1), Checks.NULL);
        C.dueFault(x, "to nothing, INDEX too", x.copy(2, -1, 0, -1, -1), Checks.NULL);
        x.sheet(1, 1, 3);
        x.lose(1);
        C.dueFault(x, "from what had another LANE", x.copy(1, 0, 2, 0, 1), Checks.NULL);
        C.dueFault(x, "to what had another LANE", x.copy(2, 0, 1, 0, 1), Checks.NULL);
    }

    /** Promise 29: "CAST (unlike LANES)", ahead of INDEX, if none is copied too. */
    static void copyOfUnlikeLanes() {
        NineSmells x = new NineSmells();
        for (int lane = 0; lane <= 2; lane++) {
            x.sheet(lane, lane, 2);
        }
        for (int k = 0; k <= 2; k++) {
            for (int other = 0; other <= 2; other++) {
                String call = "from " + k + " to " + other;
                C.dueFault(x, call, x.copy(k, 0, other, 0, 2), k == other ? 2 : Checks.CAST);
                C.dueFault(x, call + ", none", x.copy(k, 0, other, 0, 0), k == other ? 0 : Checks.CAST);
                int beyond = k == other ? Checks.INDEX : Checks.CAST;
                C.dueFault(x, call + ", INDEX too", x.copy(k, -1, other, 0, 0), beyond);
            }
        }
    }

    /** Two rows of shorts: of four and of three. */
    private static NineSmells fourAndThree() {
        NineSmells x = new NineSmells();
        Checks.row(x, 0, 1, 1, 2, 3, 4);
        Checks.row(x, 1, 1, 9, 9, 9);
        return x;
    }

    /** Promise 29: "INDEX: i, j, n below 0". */
    static void copyBelow0() {
        NineSmells x = fourAndThree();
        for (int v : new int[] {-1, -4, Checks.LEAST}) {
            C.dueFault(x, "i " + v, x.copy(0, v, 1, 0, 1), Checks.INDEX);
            C.dueFault(x, "j " + v, x.copy(0, 0, 1, v, 1), Checks.INDEX);
            C.dueFault(x, "n " + v, x.copy(0, 1, 1, 1, v), Checks.INDEX);
            C.dueFault(x, "i " + v + ", none", x.copy(0, v, 1, 0, 0), Checks.INDEX);
            C.dueFault(x, "j " + v + ", none", x.copy(0, 0, 1, v, 0), Checks.INDEX);
            C.dueFault(x, "n " + v + " at the ends", x.copy(0, 4, 1, 3, v), Checks.INDEX);
        }
        C.same("nothing is changed", Checks.cells(x, 1, 1), " 9 9 9 fault 3");
    }

    /** Promise 29: "or beyond": of the first or the other, if none is copied too; it changes nothing. */
    static void copyBeyond() {
        NineSmells x = fourAndThree();
        C.dueFault(x, "i 2, n 3", x.copy(0, 2, 1, 0, 3), Checks.INDEX);
        C.dueFault(x, "j 1, n 3", x.copy(0, 0, 1, 1, 3), Checks.INDEX);
        C.dueFault(x, "n 4 to three", x.copy(0, 0, 1, 0, 4), Checks.INDEX);
        C.dueFault(x, "n 4 from three", x.copy(1, 0, 0, 0, 4), Checks.INDEX);
        C.dueFault(x, "i 4, n 1", x.copy(0, 4, 1, 0, 1), Checks.INDEX);
        C.dueFault(x, "j 3, n 1", x.copy(0, 0, 1, 3, 1), Checks.INDEX);
        C.dueFault(x, "i 5, none", x.copy(0, 5, 1, 0, 0), Checks.INDEX);
        C.dueFault(x, "j 4, none", x.copy(0, 0, 1, 4, 0), Checks.INDEX);
        C.dueFault(x, "i 4, j 3, none", x.copy(0, 4, 1, 3, 0), 0);
        C.same("nothing is changed", Checks.cells(x, 0, 1), " 1 2 3 4 fault 3");
        C.same("nothing is changed", Checks.cells(x, 1, 1), " 9 9 9 fault 3");
    }

    /** Promise 29: "or beyond", where i or j and n wrap around. */
    static void copyWrapsNoIndex() {
        NineSmells x = fourAndThree();
        int most = Checks.MOST;
        C.dueFault(x, "n most", x.copy(0, 0, 1, 0, most), Checks.INDEX);
        C.dueFault(x, "i, j 1, n most", x.copy(0, 1, 1, 1, most), Checks.INDEX);
        C.dueFault(x, "i most", x.copy(0, most, 1, 0, 1), Checks.INDEX);
        C.dueFault(x, "j most", x.copy(0, 0, 1, most, 1), Checks.INDEX);
        C.dueFault(x, "i, j, n most", x.copy(0, most, 1, most, most), Checks.INDEX);
        C.dueFault(x, "i most, none", x.copy(0, most, 1, 0, 0), Checks.INDEX);
        C.dueFault(x, "j most, none", x.copy(0, 0, 1, most, 0), Checks.INDEX);
    }

    // ---- tell, stop, as, trace

    /** Promise 30: "TELLING of a SIGN.", of each kind. */
    static void tell() {
        NineSmells x = Checks.registered(THREE);
        C.due("PERSON", x.tell(0), 4);
        C.due("FIELD", x.tell(1), 107);
        C.due("SEAL", x.tell(2), 112);
    }

    /** Promise 30: "UNKNOWN": no body begins. */
    static void tellUnknown() {
        NineSmells x = Checks.registered(THREE);
        x.tell(0);
        for (int sign : NO_SIGN) {
            C.due("tell(" + sign + ")", x.tell(sign), -1);
        }
        C.due("trace()", x.trace(), 1);
    }

    /** Promise 31: "How it is STOPPED.", of each kind. */
    static void stop() {
        NineSmells x = Checks.registered(THREE);
        C.due("PERSON", x.stop(0), 0);
        C.due("FIELD", x.stop(1), 1);
        C.due("SEAL", x.stop(2), 90);
        C.due("trace()", x.trace(), (4 * 31 + 4) * 31 + 5);
    }

    /** Promise 31: "UNKNOWN": no body begins. */
    static void stopUnknown() {
        NineSmells x = Checks.registered(THREE);
        x.stop(0);
        for (int sign : NO_SIGN) {
            C.due("stop(" + sign + ")", x.stop(sign), -1);
        }
        C.due("trace()", x.trace(), 4);
    }

    /** Promise 32: "A SIGN, taken as one of a kind: 1.": of its own, and of those that it is, too. */
    static void as() {
        NineSmells x = Checks.registered(THREE);
        for (int sign = 0; sign <= 2; sign++) {
            for (int kind = 0; kind <= sign; kind++) {
                C.dueFault(x, "as(" + sign + ", " + kind + ")", x.as(sign, kind), 1);
            }
        }
        C.due("trace()", x.trace(), 0);
    }

    /** Promise 32: "UNKNOWN", ahead of OUTSIDE and CAST. */
    static void asUnknown() {
        NineSmells x = Checks.faulted(THREE);
        for (int sign : NO_SIGN) {
            C.dueFault(x, "as(" + sign + ", 0)", x.as(sign, 0), -1);
            C.dueFault(x, "as(" + sign + ", 2)", x.as(sign, 2), -1);
            C.dueFault(x, "as(" + sign + ", 3)", x.as(sign, 3), -1);
        }
    }

    /** Promise 32: "OUTSIDE", which is no CAST. */
    static void asOutside() {
        NineSmells x = Checks.faulted(THREE);
        for (int kind : new int[] {-1, 3, Checks.LEAST, Checks.MOST}) {
            for (int sign = 0; sign <= 2; sign++) {
                C.dueFault(x, "as(" + sign + ", " + kind + ")", x.as(sign, kind), -2);
            }
        }
    }

    /** Promise 32: "CAST: it is none.". */
    static void asCast() {
        NineSmells x = Checks.registered(THREE);
        C.dueFault(x, "PERSON as FIELD", x.as(0, 1), Checks.CAST);
        C.dueFault(x, "PERSON as SEAL", x.as(0, 2), Checks.CAST);
        C.dueFault(x, "FIELD as SEAL", x.as(1, 2), Checks.CAST);
    }

    /** Promise 33: "TRACE.": asking leaves it as it is, and so does all but tell and stop. */
    static void trace() {
        NineSmells x = Checks.registered(THREE);
        C.due("at first", x.trace(), 0);
        x.tell(2);
        int want = ((3 * 31 + 2) * 31 + 1) * 31 + 1;
        C.due("behind a SEAL's", x.trace(), want);
        C.due("again", x.trace(), want);
        x.as(2, 0);
        x.as(0, 2);
        x.paper(0, 1, 0);
        x.near(0, 1, 2, 3);
        x.steals(0, 1);
        x.put(3, 99, 0);
        C.due("behind others", x.trace(), want);
    }

    // ---- fault

    /** Promise 34: "The FAULT of the latest call that names one": each of the four. */
    static void faultTellsTheLatest() {
        NineSmells x = Checks.registered(THREE);
        x.put(0, 0, 0);
        C.due("NULL", x.fault(), 1);
        x.as(0, 1);
        C.due("CAST", x.fault(), 2);
        x.put(3, -1, 0);
        C.due("INDEX", x.fault(), 3);
        x.sheet(0, 0, -1);
        C.due("SIZE", x.fault(), 4);
        C.due("SIZE, asked again", x.fault(), 4);
        x.copy(0, 0, 3, 0, 1);
        C.due("NULL again", x.fault(), 1);
    }

    /** Promise 34: "of the latest call that names one": calls that name none leave it. */
    static void faultStaysBehindOthers() {
        NineSmells x = Checks.registered(THREE);
        C.dueFault(x, "as(0, 1)", x.as(0, 1), Checks.CAST);
        x.ofSign(0, 0);
        x.half(0, 3);
        x.bound(50);
        x.year(1);
        x.faded(0, 0, 0, 0);
        C.due("behind the first part", x.fault(), 2);
        x.paper(0, 1, 0);
        x.ofPaper(0, 0);
        x.smells(0, 0, 1);
        x.wash(0, 0);
        x.flood(1);
        x.far(0, 0, 1);
        x.fits(0, 0);
        x.proved();
        x.again(0);
        C.due("behind the second part", x.fault(), 2);
        x.apart(0, 1);
        x.twins(0);
        x.near(0, 1, 2, 3);
        x.steals(0, 1);
        x.fresh(0);
        C.due("behind the third part", x.fault(), 2);
        x.lose(0);
        x.tell(0);
        x.stop(0);
        x.trace();
        x.many(0);
        C.due("behind the fifth part", x.fault(), 2);
    }

    /** Promise 34: "of the latest call that names one": calls that name none leave it, if they are refused too. */
    static void faultStaysBehindOthersRefused() {
        NineSmells x = Checks.registered(THREE);
        C.dueFault(x, "as(0, 1)", x.as(0, 1), Checks.CAST);
        x.ofSign(9, 9);
        x.half(9, 0);
        x.half(0, 30);
        x.bound(-1);
        x.year(-1);
        x.faded(9, 9, 9, 9);
        x.faded(0, 0, -1, 0);
        C.due("behind the first part", x.fault(), 2);
        x.paper(0, 0, 0);
        x.paper(0, 1, 10);
        x.ofPaper(9, 9);
        x.smells(9, 9, 9);
        x.wash(9, 0);
        x.flood(0);
        x.far(9, 9, 9);
        x.fits(9, 9);
        x.again(9);
        C.due("behind the second part", x.fault(), 2);
        x.apart(9, 9);
        x.twins(-9);
        x.near(9, 9, 9, 9);
        x.near(0, 1, 11, 0);
        x.steals(9, 9);
        x.fresh(9);
        C.due("behind the third part", x.fault(), 2);
        x.lose(9);
        x.tell(9);
        x.stop(9);
        x.many(9);
        C.due("behind the fifth part", x.fault(), 2);
    }

    /** Promise 34: "0: it came to none": each of those that name one. */
    static void faultIs0IfItCameToNone() {
        NineSmells x = Checks.faulted(THREE);
        C.due("a FAULT ahead", x.fault(), 3);
        C.dueFault(x, "register", x.register(3, 2, 0, 32), 3);
        x = Checks.faulted(THREE);
        C.dueFault(x, "forged", x.forged(0, 1, 0, 0, 0, 0), -9);
        x = Checks.faulted(THREE);
        C.due("odds", x.odds(0, 0, 0, 0, 0, 0), 1);
        C.due("fault() after odds", x.fault(), 0);
        x = Checks.faulted(THREE);
        C.dueFault(x, "who", x.who(0, 0, 0, 0), 0);
        x = Checks.faulted(THREE);
        C.dueFault(x, "sheet", x.sheet(0, 0, 9), 1);
        x = Checks.faulted(THREE);
        C.dueFault(x, "put", x.put(0, 0, 0), 1);
        x = Checks.faulted(THREE);
        C.due("cell", x.cell(0, 0, 0), 1);
        C.due("fault() after cell", x.fault(), 0);
        x = Checks.faulted(THREE);
        C.dueFault(x, "copy", x.copy(0, 0, 0, 1, 2), 2);
        x = Checks.faulted(THREE);
        C.dueFault(x, "as", x.as(0, 0), 1);
    }

    /** Promise 34: "or was refused": UNKNOWN, of each of those that name one. */
    static void faultIs0IfUnknown() {
        NineSmells x = Checks.faulted(THREE);
        C.dueFault(x, "register", x.register(4, 0, 0, 9), -1);
        x = Checks.faulted(THREE);
        C.dueFault(x, "forged, SIGNS", x.forged(0, 0, 0, 0, 0, 0), -1);
        x = Checks.faulted(THREE);
        C.dueFault(x, "forged, SHEET", x.forged(0, 1, 4, 0, 0, 0), -1);
        x = Checks.faulted(THREE);
        C.dueLost(x, "odds, SIGN", x.odds(9, 0, 0, 0, 0, 0), 0);
        x = Checks.faulted(THREE);
        C.dueLost(x, "odds, SHEET", x.odds(0, 0, 4, 0, 0, 0), 0);
        x = Checks.faulted(THREE);
        C.dueFault(x, "who", x.who(0, 4, 0, 0), -1);
        x = Checks.faulted(THREE);
        C.dueFault(x, "sheet", x.sheet(4, 0, 0), -1);
        x = Checks.faulted(THREE);
        C.dueFault(x, "put", x.put(4, 0, 0), -1);
        x = Checks.faulted(THREE);
        C.dueLost(x, "cell", x.cell(4, 0, 0), 0);
        x = Checks.faulted(THREE);
        C.dueFault(x, "copy", x.copy(4, 0, 0, 0, 0), -1);
        x = Checks.faulted(THREE);
        C.dueFault(x, "copy, the other", x.copy(0, 0, 4, 0, 0), -1);
        x = Checks.faulted(THREE);
        C.dueFault(x, "as", x.as(9, 0), -1);
    }

    /** Promise 34: "or was refused": OUTSIDE, STATE, a FIRST FAULT. */
    static void faultIs0IfOutside() {
        NineSmells x = Checks.faulted(THREE);
        C.dueFault(x, "register", x.register(0, 3, 0, 9), -2);
        x = Checks.faulted(THREE);
        C.dueFault(x, "register, no TEXT", x.register(0, 0, 0, 9), -100);
        x = Checks.faulted(THREE);
        C.dueFault(x, "forged, lane", x.forged(0, 1, 0, 3, 0, 0), -2);
        x = Checks.faulted(THREE);
        x.put(0, 0, 9);
        x.put(0, -1, 0);
        C.dueFault(x, "forged, a SMELL", x.forged(0, 1, 0, 0, 0, 1), -2);
        x = Checks.faulted(THREE);
        C.dueLost(x, "odds, lane", x.odds(0, 0, 0, 3, 0, 0), 0);
        x = Checks.faulted(THREE);
        C.dueLost(x, "odds, WIND", x.odds(0, 4, 0, 0, 0, 0), 0);
        x = Checks.faulted(THREE);
        x.bound(0);
        C.dueLost(x, "odds, STATE", x.odds(0, 0, 0, 0, 0, 0), 0);
        x = Checks.faulted(THREE);
        C.dueFault(x, "who, lane", x.who(0, 0, 3, 0), -2);
        x = Checks.faulted(THREE);
        C.dueFault(x, "who, WIND", x.who(4, 0, 0, 0), -2);
        x = Checks.faulted(THREE);
        C.dueFault(x, "sheet, lane", x.sheet(0, 3, 0), -2);
        x = Checks.faulted(THREE);
        C.dueFault(x, "sheet, too many", x.sheet(0, 0, 91), -2);
        x = Checks.faulted(THREE);
        C.dueLost(x, "cell, lane", x.cell(0, 0, 3), 0);
        x = Checks.faulted(THREE);
        C.dueFault(x, "as, kind", x.as(0, 3), -2);
    }

    /** Promise 34: "(0 ahead of any)": of a new object, and behind calls that name none. */
    static void faultIs0AheadOfAny() {
        NineSmells x = new NineSmells();
        C.due("of a new object", x.fault(), 0);
        x.lose(0);
        x.lose(9);
        x.half(9, 9);
        x.tell(0);
        C.due("behind calls that name none", x.fault(), 0);
    }
}
