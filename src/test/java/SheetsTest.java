/** Promises 25 to 34: sheets, parts. */
public final class SheetsTest {
    private static final Checks C = new Checks("SheetsTest");

    public static void main(String[] args) {
        sheet();
        lose();
        put();
        cell();
        copy();
        copyWithinOne();
        faultyCopy();
        tell();
        stop();
        traceWraps();
        as();
        fault();
        faultIsForgotten();
        C.end();
    }

    private static void sheet() {
        NineSmells x = new NineSmells();
        C.dueFault(x, "sheet(0, 0, 90)", x.sheet(0, 0, 90), 1);
        C.due("its last cell", x.cell(0, 89, 0), 0);
        C.dueLost(x, "behind it", x.cell(0, 90, 0), 3);
        C.dueFault(x, "sheet(3, 2, 0)", x.sheet(3, 2, 0), 1);
        C.dueLost(x, "no cell", x.cell(3, 0, 2), 3);
        C.dueFault(x, "no sheet", x.sheet(4, 3, -1), -1);
        C.dueFault(x, "no sheet", x.sheet(-1, 0, 1), -1);
        C.dueFault(x, "no lane", x.sheet(1, 3, -1), -2);
        C.dueFault(x, "no lane", x.sheet(1, -1, 1), -2);
        C.dueFault(x, "too many", x.sheet(1, 0, 91), -2);
        C.dueFault(x, "too many", x.sheet(1, 0, Integer.MAX_VALUE), -2);
        C.dueFault(x, "below 0", x.sheet(1, 0, -1), Checks.SIZE);
        C.dueFault(x, "least", x.sheet(1, 0, Integer.MIN_VALUE), Checks.SIZE);
        C.due("sheet 1 has nothing still", x.lose(1), 0);
        x.put(0, 5, 77);
        C.dueFault(x, "a bad one", x.sheet(0, 1, -1), Checks.SIZE);
        C.due("changes nothing", x.cell(0, 5, 0), 77);
        C.dueFault(x, "a new row", x.sheet(0, 1, 6), 1);
        C.due("of zeros", x.cell(0, 5, 1), 0);
        C.dueLost(x, "of another lane", x.cell(0, 5, 0), 2);
        C.dueLost(x, "of less", x.cell(0, 6, 1), 3);
        x.put(0, 0, 7);
        x.sheet(0, 1, 1);
        x.put(0, 0, 8);
        C.dueFault(x, "a longer one", x.sheet(0, 1, 6), 1);
        C.due("of zeros too", x.cell(0, 0, 1), 0);
        C.due("of zeros too", x.cell(0, 5, 1), 0);
    }

    private static void lose() {
        NineSmells x = new NineSmells();
        C.due("lose(0)", x.lose(0), 0);
        x.sheet(0, 0, 0);
        x.sheet(1, 0, 2);
        C.due("lose(0)", x.lose(0), 1);
        C.due("lose(0)", x.lose(0), 0);
        C.due("lose(4)", x.lose(4), -1);
        C.due("lose(-1)", x.lose(-1), -1);
        C.due("the other one stays", x.cell(1, 1, 0), 0);
        C.dueFault(x, "put in nothing", x.put(0, 0, 1), Checks.NULL);
        x.sheet(1, 0, 2);
        x.put(1, 0, 5);
        x.lose(1);
        x.sheet(1, 0, 2);
        C.due("a row made anew", x.cell(1, 0, 0), 0);
    }

    private static void put() {
        NineSmells x = new NineSmells();
        int[] numbers = {0, 127, 128, 255, 256, -1, -128, -129, 32767, 32768, 65535, 70001, -40000,
            Integer.MAX_VALUE, Integer.MIN_VALUE};
        int[] bytes = {0, 127, -128, -1, 0, -1, -128, 127, -1, 0, -1, 113, -64, -1, 0};
        int[] shorts = {0, 127, 128, 255, 256, -1, -128, -129, 32767, -32768, -1, 4465, 25536, -1, 0};
        for (int lane = 0; lane <= 2; lane++) {
            int[] want = lane == 0 ? bytes : lane == 1 ? shorts : numbers;
            x.sheet(lane, lane, numbers.length);
            for (int i = 0; i < numbers.length; i++) {
                C.dueFault(x, "put " + numbers[i], x.put(lane, i, numbers[i]), 1);
                C.due("cell of " + numbers[i] + ", lane " + lane, x.cell(lane, i, lane), want[i]);
            }
        }
        C.dueFault(x, "no sheet", x.put(4, -1, 0), -1);
        C.dueFault(x, "no sheet", x.put(-1, 0, 0), -1);
        C.dueFault(x, "nothing", x.put(3, -1, 0), Checks.NULL);
        C.dueFault(x, "i below 0", x.put(0, -1, 0), Checks.INDEX);
        C.dueFault(x, "beyond", x.put(0, numbers.length, 0), Checks.INDEX);
        C.dueFault(x, "i most", x.put(0, Integer.MAX_VALUE, 0), Checks.INDEX);
    }

    private static void cell() {
        NineSmells x = new NineSmells();
        Checks.row(x, 2, 1, 5, -6, 7);
        C.due("cell(2, 0, 1)", x.cell(2, 0, 1), 5);
        C.due("cell(2, 1, 1)", x.cell(2, 1, 1), -6);
        C.due("cell(2, 2, 1)", x.cell(2, 2, 1), 7);
        C.dueLost(x, "beyond", x.cell(2, 3, 1), 3);
        C.dueLost(x, "no sheet", x.cell(4, 0, 1), 0);
        C.dueLost(x, "i below 0", x.cell(2, -1, 1), 3);
        C.dueLost(x, "no sheet", x.cell(-1, 0, 1), 0);
        C.dueLost(x, "another lane, beyond", x.cell(2, 9, 0), 2);
        C.dueLost(x, "no lane", x.cell(2, 9, 3), 0);
        C.dueLost(x, "nothing, beyond", x.cell(0, -9, 0), 1);
        C.dueLost(x, "no lane, nothing", x.cell(0, 0, -1), 0);
        C.dueLost(x, "i most", x.cell(2, Integer.MAX_VALUE, 1), 3);
        C.due("cell(2, 0, 1)", x.cell(2, 0, 1), 5);
        C.due("fault()", x.fault(), 0);
        Checks.row(x, 0, 2, Integer.MIN_VALUE, Integer.MAX_VALUE);
        C.due("least", x.cell(0, 0, 2), Integer.MIN_VALUE);
        C.due("most", x.cell(0, 1, 2), Integer.MAX_VALUE);
    }

    private static void dueRow(NineSmells x, String call, int k, int lane, int... want) {
        for (int i = 0; i < want.length; i++) {
            C.due(call + ": cell " + i, x.cell(k, i, lane), want[i]);
        }
    }

    private static void copy() {
        NineSmells x = new NineSmells();
        Checks.row(x, 0, 1, 1, 2, 3, 4);
        Checks.row(x, 3, 1, 9, 9, 9);
        C.dueFault(x, "copy(0, 1, 3, 0, 2)", x.copy(0, 1, 3, 0, 2), 2);
        dueRow(x, "two", 3, 1, 2, 3, 9);
        C.dueFault(x, "copy(0, 4, 3, 3, 0)", x.copy(0, 4, 3, 3, 0), 0);
        dueRow(x, "none", 3, 1, 2, 3, 9);
        C.dueFault(x, "copy(0, 0, 3, 0, 3)", x.copy(0, 0, 3, 0, 3), 3);
        dueRow(x, "all", 3, 1, 1, 2, 3);
        x.put(3, 0, 50);
        dueRow(x, "the first one stays", 0, 1, 1, 2, 3, 4);
    }

    private static void copyWithinOne() {
        NineSmells x = new NineSmells();
        Checks.row(x, 0, 0, 1, 2, 3, 4, 5);
        C.dueFault(x, "on", x.copy(0, 0, 0, 1, 4), 4);
        dueRow(x, "as they were", 0, 0, 1, 1, 2, 3, 4);
        C.dueFault(x, "back", x.copy(0, 2, 0, 0, 3), 3);
        dueRow(x, "as they were", 0, 0, 2, 3, 4, 3, 4);
        C.dueFault(x, "to itself", x.copy(0, 0, 0, 0, 5), 5);
        dueRow(x, "as they were", 0, 0, 2, 3, 4, 3, 4);
    }

    private static void faultyCopy() {
        NineSmells x = new NineSmells();
        Checks.row(x, 0, 1, 1, 2, 3, 4);
        Checks.row(x, 1, 1, 9, 9, 9);
        Checks.row(x, 2, 2, 5);
        C.dueFault(x, "no sheet", x.copy(4, -1, 3, -1, -1), -1);
        C.dueFault(x, "no sheet", x.copy(-1, 0, 0, 0, 0), -1);
        C.dueFault(x, "no other sheet", x.copy(3, 0, 4, 0, 0), -1);
        C.dueFault(x, "no other sheet", x.copy(0, 0, -1, 0, 0), -1);
        C.dueFault(x, "the first has nothing", x.copy(3, -1, 2, -1, -1), Checks.NULL);
        C.dueFault(x, "the other has nothing", x.copy(2, -1, 3, -1, -1), Checks.NULL);
        C.dueFault(x, "unlike lanes", x.copy(0, -1, 2, -1, -1), Checks.CAST);
        C.dueFault(x, "unlike lanes, none", x.copy(2, 0, 0, 0, 0), Checks.CAST);
        C.dueFault(x, "i below 0", x.copy(0, -1, 1, 0, 1), Checks.INDEX);
        C.dueFault(x, "j below 0", x.copy(0, 0, 1, -1, 1), Checks.INDEX);
        C.dueFault(x, "n below 0", x.copy(0, 1, 1, 1, -1), Checks.INDEX);
        C.dueFault(x, "i below 0, none", x.copy(0, -1, 1, 0, 0), Checks.INDEX);
        C.dueFault(x, "i beyond, none", x.copy(0, 5, 1, 0, 0), Checks.INDEX);
        C.dueFault(x, "j beyond, none", x.copy(0, 0, 1, 4, 0), Checks.INDEX);
        C.dueFault(x, "i and n beyond", x.copy(0, 2, 1, 0, 3), Checks.INDEX);
        C.dueFault(x, "j and n beyond", x.copy(0, 0, 1, 1, 3), Checks.INDEX);
        C.dueFault(x, "n beyond", x.copy(0, 0, 1, 0, 4), Checks.INDEX);
        C.dueFault(x, "n most", x.copy(0, 1, 1, 1, Integer.MAX_VALUE), Checks.INDEX);
        C.dueFault(x, "i most", x.copy(0, Integer.MAX_VALUE, 1, 0, 1), Checks.INDEX);
        C.dueFault(x, "j most", x.copy(0, 0, 1, Integer.MAX_VALUE, 1), Checks.INDEX);
        dueRow(x, "nothing is changed", 0, 1, 1, 2, 3, 4);
        dueRow(x, "nothing is changed", 1, 1, 9, 9, 9);
    }

    private static void tell() {
        NineSmells x = Checks.registered("p400000000;f700000009;s600000000;s000000000");
        C.due("tell of a PERSON", x.tell(0), 4);
        C.due("trace", x.trace(), 1);
        C.due("tell of a FIELD", x.tell(1), 107);
        C.due("trace", x.trace(), (1 * 31 + 2) * 31 + 1);
        int before = x.trace();
        C.due("tell of a SEAL", x.tell(2), 112);
        C.due("trace", x.trace(), (((before * 31 + 3) * 31 + 2) * 31 + 1) * 31 + 1);
        before = x.trace();
        C.due("tell of a SEAL of 0", x.tell(3), 100);
        C.due("trace", x.trace(), (((before * 31 + 3) * 31 + 2) * 31 + 1) * 31 + 1);
        before = x.trace();
        C.due("no sign", x.tell(4), -1);
        C.due("no sign", x.tell(-1), -1);
        C.due("trace", x.trace(), before);
    }

    private static void stop() {
        NineSmells x = Checks.registered("p400000000;f700000009;s600000000;p000000000");
        C.due("stop of a PERSON", x.stop(3), 3);
        C.due("trace", x.trace(), 4);
        C.due("stop of a FIELD", x.stop(1), 1);
        C.due("trace", x.trace(), 4 * 31 + 4);
        C.due("stop of a SEAL", x.stop(2), 90);
        C.due("trace", x.trace(), (4 * 31 + 4) * 31 + 5);
        C.due("no sign", x.stop(4), -1);
        C.due("no sign", x.stop(-1), -1);
        C.due("trace", x.trace(), (4 * 31 + 4) * 31 + 5);
    }

    private static void traceWraps() {
        NineSmells x = Checks.registered("p400000000;f700000009");
        int want = 0;
        boolean wasBelow = false;
        for (int k = 0; k < 30; k++) {
            x.stop(0);
            want = 31 * want + 4;
            wasBelow |= want < 0;
            C.due("trace " + k, x.trace(), want);
        }
        C.due("it wraps", wasBelow ? 1 : 0, 1);
    }

    private static void as() {
        NineSmells x = Checks.registered("p400000000;f700000009;s600000000");
        for (int sign = 0; sign < 3; sign++) {
            for (int kind = 0; kind < 3; kind++) {
                int want = sign >= kind ? 1 : Checks.CAST;
                C.dueFault(x, "as(" + sign + ", " + kind + ")", x.as(sign, kind), want);
            }
        }
        x.as(0, 2);
        C.dueFault(x, "kind 3", x.as(0, 3), -2);
        x.as(0, 2);
        C.dueFault(x, "kind -1", x.as(0, -1), -2);
        x.as(0, 2);
        C.dueFault(x, "no sign", x.as(3, 3), -1);
        C.dueFault(x, "no sign", x.as(-1, 0), -1);
    }

    /** Calls that name no FAULTS leave it as it is. */
    private static void fault() {
        NineSmells x = Checks.registered("p400000000;f700000009;s600000000");
        C.dueFault(x, "as(0, 1)", x.as(0, 1), Checks.CAST);
        x.paper(0, 1, 0);
        x.paper(0, 0, 0);
        x.half(0, 3);
        x.half(0, 30);
        x.bound(50);
        x.year(1);
        x.year(0);
        x.flood(1);
        x.flood(0);
        x.wash(0, 0);
        x.wash(9, 0);
        x.lose(0);
        x.lose(9);
        x.tell(0);
        x.tell(9);
        x.stop(0);
        x.near(0, 1, 2, 3);
        x.fresh(0);
        x.fresh(9);
        x.many(0);
        x.many(9);
        x.ofSign(9, 9);
        x.faded(9, 9, 9, 9);
        x.ofPaper(9, 9);
        x.smells(9, 9, 9);
        x.far(9, 9, 9);
        x.fits(9, 9);
        x.proved();
        x.again(9);
        x.apart(9, 9);
        x.twins(-9);
        x.steals(9, 9);
        x.trace();
        C.due("fault()", x.fault(), 2);
        C.due("fault() again", x.fault(), 2);
        C.dueFault(x, "a sheet", x.sheet(0, 0, 9), 1);
        C.dueFault(x, "put beyond", x.put(0, 9, 0), Checks.INDEX);
        C.dueFault(x, "put", x.put(0, 8, 0), 1);
    }

    /** An object whose latest FAULT is INDEX. */
    private static NineSmells faulted() {
        NineSmells x = Checks.registered("p400000000;f700000009;s600000000");
        Checks.row(x, 0, 0, 1, 1, 1, 1, 1, 1, 1, 1, 1);
        x.put(0, -1, 0);
        C.due("a fault ahead", x.fault(), 3);
        return x;
    }

    /** Calls that name FAULTS tell 0, if they come to none or are refused. */
    private static void faultIsForgotten() {
        NineSmells x = faulted();
        C.dueFault(x, "register, no sheet", x.register(4, 0, 0, 9), -1);
        x = faulted();
        C.dueFault(x, "register, no lane", x.register(0, 3, 0, 9), -2);
        x = faulted();
        C.dueFault(x, "register, no text", x.register(0, 0, 0, 9), -100);
        x = faulted();
        C.dueFault(x, "register", x.register(3, 2, 0, 32), 3);
        x = faulted();
        C.dueFault(x, "forged, no sign", x.forged(0, 0, 0, 0, 0, 0), -1);
        x = faulted();
        C.dueFault(x, "forged", x.forged(0, 1, 0, 0, 0, 0), -9);
        x = faulted();
        C.dueLost(x, "odds, no sign", x.odds(9, 0, 0, 0, 0, 0), 0);
        x = faulted();
        C.due("odds", x.odds(0, 0, 0, 0, 0, 0), 1);
        C.due("fault() after odds", x.fault(), 0);
        x = faulted();
        C.dueFault(x, "who, no sheet", x.who(0, 4, 0, 0), -1);
        x = faulted();
        C.dueFault(x, "who", x.who(0, 0, 0, 0), 0);
        x = faulted();
        C.dueFault(x, "sheet, no sheet", x.sheet(4, 0, 0), -1);
        x = faulted();
        C.dueFault(x, "sheet, too many", x.sheet(0, 0, 91), -2);
        x = faulted();
        C.dueFault(x, "sheet", x.sheet(0, 0, 9), 1);
        x = faulted();
        C.dueFault(x, "put, no sheet", x.put(4, 0, 0), -1);
        x = faulted();
        C.dueFault(x, "put", x.put(0, 0, 0), 1);
        x = faulted();
        C.dueLost(x, "cell, no sheet", x.cell(4, 0, 0), 0);
        x = faulted();
        C.due("cell", x.cell(0, 0, 0), 1);
        C.due("fault() after cell", x.fault(), 0);
        x = faulted();
        C.dueFault(x, "copy, no sheet", x.copy(4, 0, 0, 0, 0), -1);
        x = faulted();
        C.dueFault(x, "copy", x.copy(0, 0, 0, 1, 2), 2);
        x = faulted();
        C.dueFault(x, "as, no sign", x.as(9, 0), -1);
        x = faulted();
        C.dueFault(x, "as, no kind", x.as(0, 3), -2);
        x = faulted();
        C.dueFault(x, "as", x.as(0, 0), 1);
    }
}
