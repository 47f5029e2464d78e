/** Promises 23 and 24: a door. */
public final class DoorTest {
    private static final Checks C = new Checks("DoorTest");
    private static final String THREE = "p900000000;f900000000;s900000000";

    public static void main(String[] args) {
        hours();
        wind();
        leastTerms();
        most();
        noneMayBe();
        otherHalves();
        oneHour();
        fewerSigns();
        eachNumber();
        refused();
        faulty();
        C.end();
    }

    private static void dueOdds(NineSmells x, int sign, int wind, int upper, int lower) {
        String call = "odds(" + sign + ", " + wind + ")";
        C.due(call + " upper", x.odds(sign, wind, 0, 0, 0, 0), upper);
        C.due(call + " lower", x.odds(sign, wind, 0, 0, 0, 1), lower);
        C.due("fault() after " + call, x.fault(), 0);
    }

    /** HALVES 5, no wind: the PERSON left 72 at 0 to 4 hours, 36 at 5 to 9; the FIELD and the SEAL 72 always. */
    private static void hours() {
        NineSmells x = Checks.registered(THREE);
        Checks.row(x, 0, 0, 72, 0, 0, 0, 0, 0, 0, 0, 0);
        x.bound(0);
        dueOdds(x, 0, 0, 1, 5);
        dueOdds(x, 1, 0, 2, 5);
        dueOdds(x, 2, 0, 2, 5);
        C.dueFault(x, "who", x.who(0, 0, 0, 0), 1);
        x.bound(35);
        dueOdds(x, 0, 0, 1, 5);
        x.bound(36);
        dueOdds(x, 0, 0, 1, 3);
        C.dueFault(x, "who, all as many", x.who(0, 0, 0, 0), 0);
        x.put(0, 8, 5);
        dueOdds(x, 0, 0, 1, 5);
        x.put(0, 8, 0);
        x.put(0, 0, 31);
        dueOdds(x, 0, 0, 1, 1);
        dueOdds(x, 1, 0, 0, 1);
        C.dueFault(x, "who, the PERSON alone", x.who(0, 0, 0, 0), 0);
    }

    /** WIND w: h and h times w hours at once. */
    private static void wind() {
        NineSmells x = Checks.registered(THREE);
        Checks.row(x, 0, 0, 72, 0, 0, 0, 0, 0, 0, 0, 0);
        x.bound(0);
        // Wind 1: 2 h below 5 in hours 0, 1, 2; the FIELD's below 10 in hours 0 to 4.
        dueOdds(x, 0, 1, 1, 6);
        dueOdds(x, 1, 1, 5, 18);
        dueOdds(x, 2, 1, 5, 9);
        // Wind 3: 4 h below 5 in hours 0, 1; below 10 in 0, 1, 2.
        dueOdds(x, 0, 3, 2, 15);
        dueOdds(x, 1, 3, 1, 5);
        dueOdds(x, 2, 3, 2, 3);
        C.dueFault(x, "who", x.who(3, 0, 0, 0), 2);
        // Wind 2: 3 h below 5 in 0, 1; below 10 in 0 to 3.
        dueOdds(x, 0, 2, 1, 8);
        dueOdds(x, 1, 2, 1, 4);
    }

    private static void leastTerms() {
        NineSmells x = Checks.registered("s900000000;s900000000;s900000000;s090000000");
        Checks.row(x, 0, 0, 72, 0, 0, 0, 0, 0, 0, 0, 0);
        dueOdds(x, 0, 0, 1, 3);
        dueOdds(x, 2, 0, 1, 3);
        dueOdds(x, 3, 0, 0, 1);
        C.dueFault(x, "who", x.who(0, 0, 0, 0), 0);
        x.bound(999);
        dueOdds(x, 3, 0, 1, 4);
    }

    private static void most() {
        NineSmells x = Checks.registered("p900000000;s090000000;s009000000");
        Checks.row(x, 0, 0, 36, 0, 0, 0, 0, 0, 0, 0, 0);
        x.bound(108);
        C.dueFault(x, "who, of three the least", x.who(0, 0, 0, 0), 0);
        x.bound(35);
        dueOdds(x, 0, 0, 1, 1);
        Checks.row(x, 0, 0, 0, 0, 72, 0, 0, 0, 0, 0, 0);
        dueOdds(x, 0, 0, 0, 1);
        dueOdds(x, 2, 0, 1, 1);
        C.dueFault(x, "who, the last one", x.who(0, 0, 0, 0), 2);
        Checks.row(x, 0, 0, 9, 9, 9, 0, 0, 72, 0, 0, 0, 0, 0, 0, 99);
        C.dueFault(x, "who, in the midst", x.who(0, 0, 0, 3), 2);
    }

    private static void noneMayBe() {
        NineSmells x = Checks.registered(THREE);
        Checks.row(x, 0, 0, 72, 0, 0, 0, 0, 0, 0, 0, 1);
        x.bound(0);
        C.dueFault(x, "who of none", x.who(0, 0, 0, 0), -9);
        C.dueLost(x, "odds of none", x.odds(0, 0, 0, 0, 0, 0), 0);
        C.dueLost(x, "odds of none, lower", x.odds(2, 3, 0, 0, 0, 1), 0);
        x.bound(1);
        C.dueFault(x, "who, one more", x.who(0, 0, 0, 0), 1);
    }

    private static void otherHalves() {
        NineSmells x = Checks.registered("p990000000;s000000000");
        x.half(0, 1);
        x.half(1, 9);
        Checks.row(x, 0, 0, 72 >> 3, 72, 0, 0, 0, 0, 0, 0, 0);
        x.bound(0);
        dueOdds(x, 0, 0, 1, 1);
        x.bound(999);
        dueOdds(x, 0, 0, 1, 2);
        x.bound(8);
        // 9 left: hours 2 (18), 3 (9), 4 (4), 5 (2), 6 (1) are 9, 0, 5, 7, 8 off; in hour 9 the other one's 36 is.
        Checks.row(x, 0, 0, 9, 72, 0, 0, 0, 0, 0, 0, 0);
        x.bound(7);
        dueOdds(x, 0, 0, 1, 1);
        Checks.row(x, 0, 0, 0, 0, 0, 0, 0, 0, 0, 0, 0);
        x.bound(37);
        // Only hour 9 (0 and 36) of the PERSON, and all of the SEAL's.
        dueOdds(x, 0, 0, 1, 11);
        C.dueFault(x, "who", x.who(0, 0, 0, 0), 1);
        // What is left does not fade by years.
        x.year(50);
        dueOdds(x, 0, 0, 1, 11);
    }

    private static void oneHour() {
        NineSmells x = Checks.registered("p000000000;p900000000");
        x.half(0, 1);
        x.bound(0);
        // 18 is left of 72 in hour 2 alone.
        Checks.row(x, 0, 0, 18, 0, 0, 0, 0, 0, 0, 0, 0);
        dueOdds(x, 1, 0, 1, 1);
        C.dueFault(x, "who, of one hour", x.who(0, 0, 0, 0), 1);
        x.bound(54);
        // All ten hours of 0, and all ten of 1.
        dueOdds(x, 1, 0, 1, 2);
    }

    private static void fewerSigns() {
        NineSmells x = Checks.registered("p000000000;p100000000;s010000000;s200000000;"
            + "s300000000;s400000000;s500000000;s900000000");
        x.bound(0);
        Checks.row(x, 0, 0, 72, 0, 0, 0, 0, 0, 0, 0, 0);
        C.dueFault(x, "who of eight", x.who(0, 0, 0, 0), 7);
        Checks.row(x, 0, 0, 0, 8, 0, 0, 0, 0, 0, 0, 0);
        C.dueFault(x, "who of eight", x.who(0, 0, 0, 0), 2);
        Checks.enter(x, "p000000000;p900000000");
        x.bound(0);
        C.dueFault(x, "who of two", x.who(0, 0, 0, 0), -9);
        x.put(0, 1, 0);
        dueOdds(x, 0, 0, 1, 1);
    }

    private static void eachNumber() {
        NineSmells x = Checks.registered(THREE);
        x.bound(999);
        Checks.row(x, 0, 1, 0, 99, 0, 0, 0, 0, 0, 0, 0, 0, 0, -1);
        for (int i = 1; i <= 9; i++) {
            x.put(0, i, 99);
            C.dueFault(x, "99 in cell " + i, x.who(0, 0, 1, 1), 0);
            x.put(0, i, 100);
            C.dueFault(x, "100 in cell " + i, x.who(0, 0, 1, 1), -2);
            C.dueLost(x, "100 in cell " + i, x.odds(0, 0, 0, 1, 1, 0), 0);
            x.put(0, i, -1);
            C.dueFault(x, "-1 in cell " + i, x.who(0, 0, 1, 1), -2);
            C.dueLost(x, "-1 in cell " + i, x.odds(0, 0, 0, 1, 1, 0), 0);
            x.put(0, i, 0);
        }
    }

    private static void refused() {
        NineSmells x = Checks.registered(THREE);
        Checks.row(x, 0, 0, 72, 0, 0, 0, 0, 0, 0, 0, 99);
        Checks.row(x, 1, 2, 72, 0, 0, 0, 0, 0, 0, 0, 100, -1, 256);
        x.put(0, 9, 0);
        C.due("a fault ahead", x.fault(), 3);
        C.dueLost(x, "no sign", x.odds(3, 4, 0, 1, -1, 2), 0);
        C.dueLost(x, "no sign", x.odds(-1, 0, 0, 0, 0, 0), 0);
        C.dueLost(x, "no sheet", x.odds(0, 0, 4, 0, 0, 0), 0);
        C.dueLost(x, "no sheet", x.odds(0, 0, -1, 0, 0, 0), 0);
        C.dueLost(x, "no lane", x.odds(0, 0, 0, 3, -1, 0), 0);
        C.dueLost(x, "wind below 0", x.odds(0, -1, 0, 0, 0, 0), 0);
        C.dueLost(x, "wind above 3", x.odds(0, 4, 0, 0, 0, 0), 0);
        x.bound(999);
        C.dueLost(x, "which below 0", x.odds(0, 0, 0, 0, 0, -1), 0);
        C.dueLost(x, "which above 1", x.odds(0, 0, 0, 0, 0, 2), 0);
        C.dueLost(x, "100 left", x.odds(0, 0, 1, 2, 0, 0), 0);
        C.dueFault(x, "no sheet", x.who(4, 4, 3, -1), -1);
        C.dueFault(x, "no sheet", x.who(0, -1, 0, 0), -1);
        C.dueFault(x, "no lane", x.who(4, 0, 3, -1), -2);
        C.dueFault(x, "no lane", x.who(0, 2, -1, 0), -2);
        C.dueFault(x, "wind below 0", x.who(-1, 0, 0, 0), -2);
        C.dueFault(x, "wind above 3", x.who(4, 0, 0, 0), -2);
        C.dueFault(x, "99 left", x.who(3, 0, 0, 0), 0);
        C.dueFault(x, "100 left", x.who(0, 1, 2, 0), -2);
        x.put(1, 8, 99);
        C.dueFault(x, "99 left", x.who(0, 1, 2, 0), 0);
        C.dueFault(x, "-1 left", x.who(0, 1, 2, 1), -2);
        x.put(1, 9, 0);
        C.dueFault(x, "0 left", x.who(0, 1, 2, 1), 0);
        C.dueFault(x, "256 left", x.who(0, 1, 2, 2), -2);
    }

    private static void faulty() {
        NineSmells x = Checks.registered(THREE);
        Checks.row(x, 0, 0, 72, 0, 0, 0, 0, 0, 0, 0, 0, 0);
        C.dueLost(x, "another lane", x.odds(0, 4, 0, 1, -1, 2), 2);
        C.dueLost(x, "nothing", x.odds(0, 4, 1, 1, -1, 2), 1);
        C.dueLost(x, "i below 0", x.odds(0, 4, 0, 0, -1, 2), 3);
        C.dueLost(x, "beyond", x.odds(0, 4, 0, 0, 2, 2), 3);
        C.dueLost(x, "i most", x.odds(0, 0, 0, 0, Integer.MAX_VALUE, 0), 3);
        C.due("in reach", x.odds(0, 0, 0, 0, 1, 1), 1);
        C.due("fault()", x.fault(), 0);
        C.dueFault(x, "another lane", x.who(4, 0, 2, -1), Checks.CAST);
        C.dueFault(x, "nothing", x.who(4, 1, 2, -1), Checks.NULL);
        C.dueFault(x, "i below 0", x.who(4, 0, 0, -1), Checks.INDEX);
        C.dueFault(x, "beyond", x.who(4, 0, 0, 2), Checks.INDEX);
        C.dueFault(x, "i most", x.who(0, 0, 0, Integer.MAX_VALUE), Checks.INDEX);
        // The PERSON's 36 in hours 5 to 9 are near enough to nothing.
        C.dueFault(x, "in reach", x.who(0, 0, 0, 1), 0);
    }
}
