/** Promises 17 to 22: alike ones, forgers. */
public final class AlikeTest {
    private static final Checks C = new Checks("AlikeTest");

    public static void main(String[] args) {
        apart();
        twins();
        forged();
        forgedLeast();
        refusedForged();
        faultyForged();
        stoppersOutside();
        near();
        steals();
        fresh();
        freshOfSeveral();
        C.end();
    }

    private static void apart() {
        NineSmells x = Checks.registered("p900000001;f190000000;s000000000");
        C.due("apart(0, 1)", x.apart(0, 1), 18);
        C.due("apart(1, 0)", x.apart(1, 0), 18);
        C.due("apart(0, 2)", x.apart(0, 2), 10);
        C.due("apart(2, 2)", x.apart(2, 2), 0);
        C.due("apart(3, 0)", x.apart(3, 0), -1);
        C.due("apart(0, 3)", x.apart(0, 3), -1);
        C.due("apart(-1, 0)", x.apart(-1, 0), -1);
        C.due("apart(0, -1)", x.apart(0, -1), -1);
    }

    private static void twins() {
        NineSmells x = Checks.registered("p100000000;f200000000;s900000000;p800000000");
        // APART: 01 1, 02 8, 03 7, 12 7, 13 6, 23 1. BOUND 40 by 8 is 5.
        C.due("twins(-1)", x.twins(-1), 2);
        C.due("twins(0)", x.twins(0), 1);
        C.due("twins(1)", x.twins(1), 23);
        C.due("twins(2)", x.twins(2), -9);
        x.bound(47);
        C.due("BOUND 47", x.twins(-1), 2);
        x.bound(48);
        C.due("BOUND 48", x.twins(-1), 3);
        C.due("twins(1)", x.twins(1), 13);
        x.bound(56);
        C.due("BOUND 56", x.twins(-1), 5);
        C.due("twins(0)", x.twins(0), 1);
        C.due("twins(1)", x.twins(1), 3);
        C.due("twins(2)", x.twins(2), 12);
        C.due("twins(3)", x.twins(3), 13);
        C.due("twins(4)", x.twins(4), 23);
        C.due("twins(5)", x.twins(5), -9);
        x.bound(7);
        C.due("BOUND 7", x.twins(-1), 0);
        C.due("twins(0)", x.twins(0), -9);
        C.due("twins(-2)", x.twins(-2), -1);
        C.due("twins of the least", x.twins(Integer.MIN_VALUE), -1);
        C.due("twins of the most", x.twins(Integer.MAX_VALUE), -9);
    }

    private static void forged() {
        NineSmells x = Checks.registered("p000000000;f340000000;s900000000");
        x.bound(0);
        Checks.row(x, 0, 0, 7, 0, 3, 1, 4, 0, 2, 0, 1, 1, 3);
        // Stoppers from cell 1 on: 0: 3 of 0, 1: 4 of 1, 2: 2 of 0, 3: 1 of 0, 4: 3 of 1.
        C.dueFault(x, "0 for 1", x.forged(0, 1, 0, 0, 1, 2), 3);
        C.dueFault(x, "0 for 1 without the second", x.forged(0, 1, 0, 0, 1, 1), -9);
        x.bound(8);
        C.dueFault(x, "one left over", x.forged(0, 1, 0, 0, 1, 5), 3);
        x.bound(15);
        C.dueFault(x, "fifteen is as eight", x.forged(0, 1, 0, 0, 1, 1), -9);
        x.bound(24);
        C.dueFault(x, "three left over: one will do", x.forged(0, 1, 0, 0, 1, 5), 2);
        x.bound(32);
        C.dueFault(x, "four left over", x.forged(0, 1, 0, 0, 1, 5), 1);
        x.bound(56);
        C.dueFault(x, "seven left over: none", x.forged(0, 1, 0, 0, 1, 5), 0);
        C.dueFault(x, "no stoppers", x.forged(0, 1, 0, 0, 1, 0), 0);
        x.bound(55);
        C.dueFault(x, "no stoppers, one less", x.forged(0, 1, 0, 0, 1, 0), -9);
        C.dueFault(x, "no stoppers at the end", x.forged(0, 1, 0, 0, 11, 0), -9);
        // 2 smells of 9, and with a stopper of more than 9.
        x.bound(0);
        C.dueFault(x, "stoppers only add", x.forged(2, 0, 0, 0, 1, 5), -9);
    }

    private static void forgedLeast() {
        NineSmells x = Checks.registered("p000000000;f900000000");
        x.bound(0);
        Checks.row(x, 1, 2, 0, 1, 0, 2, 0, 3, 0, 4, 0, 5, 0, 6, 0, 4, 0, 5, 0, 8, 0, 1);
        // By two: 3 and 6 (bits 2, 5), 4 and 5 (3, 4), 5 and 4 ..; the least as bits is 3, 4.
        C.dueFault(x, "two that make 9", x.forged(0, 1, 1, 2, 0, 10), 8 + 16);
        C.dueFault(x, "the first three", x.forged(0, 1, 1, 2, 0, 3), -9);
        C.dueFault(x, "the first four: 2, 3, 4", x.forged(0, 1, 1, 2, 0, 4), 2 + 4 + 8);
        C.dueFault(x, "from the second on", x.forged(0, 1, 1, 2, 2, 9), 4 + 8);
        Checks.row(x, 1, 1, 0, 1, 0, 1, 0, 1, 0, 1, 0, 1, 0, 1, 0, 1, 0, 1, 0, 1, 0, 9);
        C.dueFault(x, "one at the end", x.forged(0, 1, 1, 1, 0, 10), 512);
        C.dueFault(x, "nine ahead of it", x.forged(0, 1, 1, 1, 0, 9), 511);
        NineSmells y = Checks.registered("p900000000;p990000000;p000000000");
        y.bound(72);
        Checks.row(y, 0, 0, 0, 9, 1, 9);
        C.dueFault(y, "more than 9 is not cut", y.forged(0, 1, 0, 0, 0, 1), 0);
        y.bound(71);
        C.dueFault(y, "9 and 9", y.forged(0, 1, 0, 0, 0, 1), -9);
        C.dueFault(y, "by the other one", y.forged(0, 1, 0, 0, 0, 2), 2);
    }

    private static void refusedForged() {
        NineSmells x = Checks.registered("p000000000;f340000000;s900000000");
        Checks.row(x, 0, 0, 0, 3, 1, 4);
        x.put(0, 9, 0);
        C.due("a fault ahead", x.fault(), 3);
        C.dueFault(x, "no first sign", x.forged(3, 0, 4, 3, -1, -1), -1);
        C.dueFault(x, "no first sign", x.forged(-1, 0, 0, 0, 0, 2), -1);
        C.dueFault(x, "no second sign", x.forged(0, 3, 0, 0, 0, 2), -1);
        C.dueFault(x, "no second sign", x.forged(0, -1, 0, 0, 0, 2), -1);
        C.dueFault(x, "one sign", x.forged(1, 1, 0, 1, 0, 2), -1);
        C.dueFault(x, "no sheet", x.forged(0, 1, 4, 3, 0, 2), -1);
        C.dueFault(x, "no sheet", x.forged(0, 1, -1, 0, 0, 2), -1);
        C.dueFault(x, "no lane", x.forged(0, 1, 0, 3, -1, -1), -2);
        C.dueFault(x, "no lane", x.forged(0, 1, 0, -1, 0, 2), -2);
        C.dueFault(x, "no lane, no row", x.forged(0, 1, 1, 3, 0, 2), -2);
    }

    private static void faultyForged() {
        NineSmells x = Checks.registered("p000000000;f340000000;s900000000");
        Checks.row(x, 0, 0, 0, 3, 1, 4);
        C.dueFault(x, "another lane", x.forged(0, 1, 0, 1, -1, -1), Checks.CAST);
        C.dueFault(x, "nothing", x.forged(0, 1, 1, 1, -1, -1), Checks.NULL);
        C.dueFault(x, "n below 0", x.forged(0, 1, 0, 0, -1, -1), Checks.SIZE);
        C.dueFault(x, "n least", x.forged(0, 1, 0, 0, 0, Integer.MIN_VALUE), Checks.SIZE);
        C.dueFault(x, "i below 0", x.forged(0, 1, 0, 0, -1, 0), Checks.INDEX);
        C.dueFault(x, "beyond", x.forged(0, 1, 0, 0, 0, 3), Checks.INDEX);
        C.dueFault(x, "half of the last one", x.forged(0, 1, 0, 0, 1, 2), Checks.INDEX);
        C.dueFault(x, "behind the end", x.forged(0, 1, 0, 0, 5, 0), Checks.INDEX);
        C.dueFault(x, "n 11, beyond", x.forged(0, 1, 0, 0, 0, 11), Checks.INDEX);
        C.dueFault(x, "n most", x.forged(0, 1, 0, 0, 0, Integer.MAX_VALUE), Checks.INDEX);
        C.dueFault(x, "twice n wraps to 0", x.forged(0, 1, 0, 0, 0, 1 << 30), Checks.INDEX);
        C.dueFault(x, "twice n wraps to 2", x.forged(0, 1, 0, 0, 0, (1 << 30) + 1), Checks.INDEX);
        C.dueFault(x, "i most", x.forged(0, 1, 0, 0, Integer.MAX_VALUE, 1), Checks.INDEX);
    }

    private static void stoppersOutside() {
        NineSmells x = Checks.registered("p000000000;f340000000;s900000000");
        Checks.row(x, 0, 2, 0, 1, 0, 1, 0, 1, 0, 1, 0, 1, 0, 1, 0, 1, 0, 1, 0, 1, 0, 1, 0, 1);
        C.dueFault(x, "eleven", x.forged(0, 1, 0, 2, 0, 11), -2);
        C.dueFault(x, "ten", x.forged(0, 2, 0, 2, 0, 10), 15);
        x.put(0, 18, 9);
        C.dueFault(x, "smell 9", x.forged(0, 2, 0, 2, 0, 10), -2);
        C.dueFault(x, "ahead of that", x.forged(0, 2, 0, 2, 0, 9), 15);
        x.put(0, 18, -1);
        C.dueFault(x, "smell -1", x.forged(0, 2, 0, 2, 0, 10), -2);
        x.put(0, 18, 8);
        C.dueFault(x, "smell 8", x.forged(0, 2, 0, 2, 0, 10), 15);
        x.put(0, 19, 0);
        C.dueFault(x, "0 more", x.forged(0, 2, 0, 2, 0, 10), -2);
        x.put(0, 19, 10);
        C.dueFault(x, "10 more", x.forged(0, 2, 0, 2, 0, 10), -2);
        x.put(0, 19, 9);
        C.dueFault(x, "9 more", x.forged(0, 2, 0, 2, 0, 10), 15);
        Checks.row(x, 1, 2, 256, 1, 0, 257);
        C.dueFault(x, "alike in the last byte", x.forged(0, 2, 1, 2, 0, 1), -2);
        C.dueFault(x, "alike in the last byte", x.forged(0, 2, 1, 2, 2, 1), -2);
    }

    private static void near() {
        NineSmells x = Checks.registered("p900000005;f070000005;s030000000");
        int[] less = {9, 9, 8, 7, 6, 5, 4, 3, 2, 1, 0};
        int[] more = {0, 0, 1, 2, 2, 3, 4, 4, 5, 6, 7};
        for (int h = 0; h <= 10; h++) {
            C.due("less, " + h, x.near(0, 1, h, 0), less[h]);
            C.due("more, " + h, x.near(0, 1, h, 1), more[h]);
            C.due("as much, " + h, x.near(0, 1, h, 8), 5);
        }
        C.due("of itself", x.near(1, 1, 7, 1), 7);
        C.due("from 7 to 3, 6 hours", x.near(1, 2, 6, 1), 5);
        C.due("h below 0", x.near(0, 1, -1, 0), -2);
        C.due("h above 10", x.near(0, 1, 11, 0), -2);
        C.due("no smell", x.near(0, 1, 11, 9), -1);
        C.due("no smell", x.near(0, 1, 0, -1), -1);
        C.due("no sign", x.near(3, 1, 11, 0), -1);
        C.due("no sign", x.near(0, 3, 0, 0), -1);
        C.due("no sign", x.near(-1, 0, 0, 0), -1);
        C.due("no sign", x.near(0, -1, 0, 0), -1);
    }

    private static void steals() {
        NineSmells x = Checks.registered("p900000005;f070000005;s930000005");
        // APART of 0 near 1: 9 - h.. : 16, 16, 14, 12, 11, 9, 7, 6, 4, 2, 0.
        int[] apart = {16, 16, 14, 12, 11, 9, 7, 6, 4, 2, 0};
        for (int h = 0; h <= 10; h++) {
            if (h != 1) {
                x.bound(8 * apart[h]);
                C.due("as far as BOUND, " + h, x.steals(0, 1), h);
            }
        }
        x.bound(8 * 9 - 1);
        C.due("one less", x.steals(0, 1), 6);
        x.bound(0);
        C.due("in the end", x.steals(1, 2), 10);
        x.bound(40);
        C.due("at once", x.steals(0, 2), 0);
        C.due("one sign", x.steals(1, 1), -1);
        C.due("no sign", x.steals(3, 1), -1);
        C.due("no sign", x.steals(1, 3), -1);
        C.due("no sign", x.steals(-1, 1), -1);
        C.due("no sign", x.steals(1, -1), -1);
    }

    private static void dueFresh(NineSmells x, String text, int... want) {
        for (int what = 0; what <= 4; what++) {
            C.due("fresh(" + what + ") of " + text, x.fresh(what), want[what]);
        }
    }

    private static void fresh() {
        NineSmells none = new NineSmells();
        C.due("fresh(0) of none", none.fresh(0), -3);
        C.due("fresh(5) of none", none.fresh(5), -2);
        String ends = "p000000999;p000009990";
        NineSmells x = Checks.registered(ends);
        C.due("fresh(-1)", x.fresh(-1), -2);
        C.due("fresh(5)", x.fresh(5), -2);
        dueFresh(x, ends, 45, 0, 1, 9, 9);
        // Far from all by what they lack: SMELLS 7 and 8.
        String last = "p999999900;f999999900";
        Checks.enter(x, last);
        dueFresh(x, last, 81, 7, 8, 9, 9);
        String most = "p999999990;s999999990";
        Checks.enter(x, most);
        dueFresh(x, most, 81, 0, 8, 0, 9);
        String full = "p999999999;s999999999";
        Checks.enter(x, full);
        dueFresh(x, full, 81, 0, 1, 0, 0);
    }

    private static void freshOfSeveral() {
        NineSmells x = new NineSmells();
        String zero = "p000000000;p999999999";
        Checks.enter(x, zero);
        // u + v from the one, 81 less that from the other: 18 at the most.
        dueFresh(x, zero, 18, 0, 1, 9, 9);
        String one = "p900000000;s009000000";
        Checks.enter(x, one);
        // 1 and 3 with 9 and 9 are 27 from each; 0 and 1 only 9 from the first.
        dueFresh(x, one, 27, 1, 3, 9, 9);
        String middle = "p000000000;p990000000;p909000000;p900900000;p900090000;p900009000;p900000900;p900000090";
        Checks.enter(x, middle);
        // 0 and 1 to 0 and 7 are there; 0 and 8 are 18 from all, as are 1 and 2.
        dueFresh(x, middle, 18, 0, 8, 9, 9);
        C.due("a bad text", Checks.enter(x, "p"), -101);
        dueFresh(x, "the same SIGNS still", 18, 0, 8, 9, 9);
        Checks.enter(x, one);
        C.due("fresh(2) of " + one, x.fresh(2), 3);
    }
}
