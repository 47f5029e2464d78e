/** Promises 23 and 24, and the terms of part 4: a DOOR. */
public final class DoorTest {
    private static final Checks C = new Checks("DoorTest");
    /** HALVES 5, no WIND: the PERSON left 72 at 0 to 4 hours, 36 at 5 to 9; the FIELD and the SEAL 72 always. */
    private static final String THREE = "p900000000;f900000000;s900000000";
    private static final int[] NO_SHEET = {-1, 4, Checks.LEAST, Checks.MOST};
    private static final int[] NO_LANE = {-1, 3, Checks.LEAST, Checks.MOST};
    private static final int[] NO_SIGN = {-1, 3, Checks.LEAST, Checks.MOST};
    private static final int[] NO_WIND = {-1, 4, Checks.LEAST, Checks.MOST};

    public static void main(String[] args) {
        C.run(DoorTest.class);
    }

    /** A REGISTER, BOUND 0, and these numbers as bytes in sheet 0. */
    private static NineSmells door(String text, int... left) {
        NineSmells x = Checks.registered(text);
        x.bound(0);
        Checks.row(x, 0, 0, left);
        return x;
    }

    private static NineSmells door72(String text) {
        return door(text, 72, 0, 0, 0, 0, 0, 0, 0, 0);
    }

    private static void dueOdds(NineSmells x, int sign, int wind, int upper, int lower) {
        String call = "odds(" + sign + ", " + wind + ")";
        C.due(call + " upper", x.odds(sign, wind, 0, 0, 0, 0), upper);
        C.due(call + " lower", x.odds(sign, wind, 0, 0, 0, 1), lower);
        C.due("fault() after " + call, x.fault(), 0);
    }

    /** ODDS of a SIGN that MAY be in so many hours of all. */
    private static void dueShare(NineSmells x, int sign, int wind, int hours, int all) {
        int common = all;
        while (hours % common != 0 || all % common != 0) {
            common--;
        }
        dueOdds(x, sign, wind, hours / common, all / common);
    }

    /** In how many hours the SIGN 0 MAY be, where SIGN 1 MAY be in all ten and there are no others. */
    private static void dueHours(NineSmells x, int wind, int hours) {
        dueShare(x, 0, wind, hours, 10 + hours);
    }

    // ---- the terms

    /**
     * Term A DOOR: "A DOOR: nine numbers (0 .. 99) of what is left": 0 and 99 are taken, -1 and 100 are not, of each.
     */
    static void numbersOfADoor() {
        NineSmells x = Checks.registered(THREE);
        x.bound(999);
        Checks.row(x, 0, 1, 0, 99, 0, 0, 0, 0, 0, 0, 0, 0, 0, -1);
        for (int i = 1; i <= 9; i++) {
            x.put(0, i, 99);
            C.dueFault(x, "99 in cell " + i, x.who(0, 0, 1, 1), 0);
            x.put(0, i, 100);
            C.dueFault(x, "100 in cell " + i, x.who(0, 0, 1, 1), -2);
            x.put(0, i, -1);
            C.dueFault(x, "-1 in cell " + i, x.who(0, 0, 1, 1), -2);
            x.put(0, i, 0);
            C.dueFault(x, "0 in cell " + i, x.who(0, 0, 1, 1), 0);
        }
    }

    /** Term A DOOR: "a WIND (0 .. 3)". */
    static void windOfADoor() {
        NineSmells x = door72(THREE);
        // Hours times 1, 2, 3, 4 below 5 are 5, 3, 2, 2; below 10 they are 10, 5, 4, 3; the SEAL's are 10.
        int[] person = {5, 3, 2, 2};
        int[] field = {10, 5, 4, 3};
        for (int wind = 0; wind <= 3; wind++) {
            int all = person[wind] + field[wind] + 10;
            dueShare(x, 0, wind, person[wind], all);
            dueShare(x, 1, wind, field[wind], all);
            dueShare(x, 2, wind, 10, all);
        }
        dueOdds(x, 0, 1, 1, 6);
        dueOdds(x, 0, 3, 2, 15);
        C.dueFault(x, "who, WIND 3", x.who(3, 0, 0, 0), 2);
    }

    /** Term A DOOR: "A SIGN that was there h hours ago (0 .. 9)": in hour 0, and in hour 9, but in no hour 10. */
    static void hoursOfADoor() {
        NineSmells x = door("p900000000;s400000000", 32, 0, 0, 0, 0, 0, 0, 0, 0);
        x.half(0, 9);
        // 72 to hour 8, 36 in hour 9: 4 from 32.
        x.bound(4);
        dueHours(x, 0, 1);
        x.bound(3);
        dueHours(x, 0, 0);
        x.bound(40);
        dueHours(x, 0, 10);
        NineSmells y = door72("p900000000;s900000000");
        y.half(0, 1);
        // Hour 0 alone.
        dueHours(y, 0, 1);
        dueOdds(y, 1, 0, 10, 11);
    }

    /** Term A DOOR: "left 8 times STRENGTH (this product FADED": not 8 times what is FADED. */
    static void productAtADoorFades() {
        NineSmells x = door("p300000000;p500000000", 12, 0, 0, 0, 0, 0, 0, 0, 0);
        // 24 and 40, by 5 hours 12 and 20.
        C.dueFault(x, "who", x.who(0, 0, 0, 0), 0);
        dueOdds(x, 0, 0, 1, 1);
        x.put(0, 0, 40);
        C.dueFault(x, "who left 40", x.who(0, 0, 0, 0), 1);
        x.put(0, 0, 20);
        C.dueFault(x, "who left 20", x.who(0, 0, 0, 0), 1);
    }

    /** Term A DOOR: "(this product FADED by h years and h times WIND more": each SMELL by its own HALF. */
    static void smellsAtADoorFadeByThemselves() {
        NineSmells x = door("p990000000;s000000000", 9, 72, 0, 0, 0, 0, 0, 0, 0);
        x.half(0, 1);
        x.half(1, 9);
        // Hour 3 alone: 72 halved thrice is 9.
        dueOdds(x, 0, 0, 1, 1);
        x.put(0, 0, 4);
        dueOdds(x, 0, 3, 1, 1);
        x.put(0, 0, 0);
        x.put(0, 1, 36);
        // Hours 7 and 8 leave 0 of the first and 72 of the other one, hour 9 leaves 0 and 36.
        dueOdds(x, 0, 0, 1, 1);
        x.year(50);
        dueOdds(x, 0, 0, 1, 1);
    }

    /** Term A DOOR: "together at once)": 4 and 4 are 8 years, and so one HALF of 5. */
    static void windAndHoursTogether() {
        NineSmells x = door("p900000000;s900000000", 72, 0, 0, 0, 0, 0, 0, 0, 0);
        // 0, 2 and 4 years; hours 3 and 4 would be below 5 twice.
        dueHours(x, 1, 3);
        NineSmells y = door("f900000000;s900000000", 72, 0, 0, 0, 0, 0, 0, 0, 0);
        dueHours(y, 1, 5);
    }

    /** Term FADED: "(or hours)": 36 of HALF 1 leave nothing, as 32 do. */
    static void manyHoursLeaveNothing() {
        NineSmells x = door72("p900000000;s900000000");
        x.half(0, 1);
        // Hours 0, 4, 8 .. 36; hour 0 alone left 72.
        dueHours(x, 3, 1);
        NineSmells y = door("p900000000;s000000000", 0, 0, 0, 0, 0, 0, 0, 0, 0);
        y.half(0, 1);
        // 7 years and more: hours 7 to 9 without WIND, hours 2 to 9 by WIND 3.
        dueHours(y, 0, 3);
        dueHours(y, 3, 8);
    }

    /** Term A DOOR: "h times WIND more": hour 9 with WIND 3 is 36 years, four HALVES of 9; 35 are three. */
    static void mostHoursAndWind() {
        NineSmells x = door("p900000000;s400000000", 4, 0, 0, 0, 0, 0, 0, 0, 0);
        x.half(0, 9);
        // 72 becomes 4 in hour 9 alone.
        dueOdds(x, 0, 3, 1, 1);
        x.put(0, 0, 9);
        // 18 and 9 by hours 5 to 8, 4 by hour 9; 32 of the SEAL.
        x.bound(23);
        dueShare(x, 0, 3, 5, 15);
    }

    /**
     * Term MAY: "It MAY be: what it left is no farther from what is left (summed up) than BOUND": as far, but not one
     * more.
     */
    static void mayBeAsFarAsBound() {
        NineSmells x = door("p900000000;s900000000", 72, 0, 0, 0, 0, 0, 0, 0, 0);
        x.bound(35);
        dueHours(x, 0, 5);
        x.bound(36);
        dueHours(x, 0, 10);
        x.put(0, 8, 1);
        dueHours(x, 0, 5);
        x.bound(37);
        dueHours(x, 0, 10);
        x.put(0, 0, 71);
        // 1 and 1 from 72; 35 and 1 from 36.
        x.bound(36);
        dueHours(x, 0, 10);
        x.bound(35);
        dueHours(x, 0, 5);
        x.bound(1);
        C.dueFault(x, "none is as near as 1", x.who(0, 0, 0, 0), -9);
        x.bound(2);
        C.dueFault(x, "both are as near as 2", x.who(0, 0, 0, 0), 1);
    }

    /** Term MAY: "what is left (summed up)": 99 of each SMELL is 891 from one who left nothing. */
    static void mayBeFromAllThatIsLeft() {
        NineSmells x = door("s000000000;s000000000", 99, 99, 99, 99, 99, 99, 99, 99, 99);
        x.bound(890);
        C.dueFault(x, "BOUND 890", x.who(0, 0, 0, 0), -9);
        x.bound(891);
        C.dueFault(x, "BOUND 891", x.who(0, 0, 0, 0), 0);
        NineSmells y = door("s999999999;s999999999", 0, 0, 0, 0, 0, 0, 0, 0, 0);
        y.bound(647);
        C.dueFault(y, "BOUND 647", y.who(0, 0, 0, 0), -9);
        y.bound(648);
        C.dueFault(y, "BOUND 648", y.who(0, 0, 0, 0), 0);
    }

    /** Term ODDS: "of all SIGNS and hours": ten of 80, if all of eight MAY be; ten of 71, if one has but one less. */
    static void oddsOfAll80() {
        String seven = "s900000000;s900000000;s900000000;s900000000;s900000000;s900000000;s900000000;";
        NineSmells x = door72(seven + "s900000000");
        dueOdds(x, 7, 0, 1, 8);
        NineSmells y = door72(seven + "p900000000");
        y.half(0, 9);
        dueOdds(y, 0, 0, 10, 79);
        dueOdds(y, 7, 0, 9, 79);
        y.half(0, 1);
        dueOdds(y, 6, 0, 10, 71);
        dueOdds(y, 7, 0, 1, 71);
    }

    /** Term ODDS: "ODDS of a SIGN: of all SIGNS and hours that MAY be how many are its own.": none, some, all. */
    static void odds() {
        NineSmells x = door72(THREE);
        dueOdds(x, 0, 0, 1, 5);
        dueOdds(x, 1, 0, 2, 5);
        dueOdds(x, 2, 0, 2, 5);
        x.bound(36);
        dueOdds(x, 0, 0, 1, 3);
        x.bound(5);
        x.put(0, 0, 31);
        dueOdds(x, 0, 0, 1, 1);
        dueOdds(x, 1, 0, 0, 1);
        NineSmells y = door72("s900000000;s900000000;s900000000;s090000000");
        dueOdds(y, 2, 0, 1, 3);
        dueOdds(y, 3, 0, 0, 1);
        y.bound(999);
        dueOdds(y, 3, 0, 1, 4);
    }

    /** Term WHO: "WHO: the SIGN of the most hours": ten of the last one, one hour if there is no more. */
    static void whoOfTheMostHours() {
        NineSmells x = door("p000000000;p900000000", 18, 0, 0, 0, 0, 0, 0, 0, 0);
        x.half(0, 1);
        // 18 is left of 72 in hour 2 alone.
        C.dueFault(x, "of one hour", x.who(0, 0, 0, 0), 1);
        x.bound(17);
        C.dueFault(x, "of hours 2 to 6", x.who(0, 0, 0, 0), 1);
        x.bound(18);
        C.dueFault(x, "of all hours, ahead of hours 2 to 9", x.who(0, 0, 0, 0), 0);
        NineSmells y = door72("p900000000;p090000000;s900000000");
        C.dueFault(y, "five of the first one, ten of the last", y.who(0, 0, 0, 0), 2);
    }

    /** Term WHO: "the SIGN of the most hours": each of eight by itself. */
    static void whoOfEight() {
        NineSmells x = door("s100000000;s010000000;s001000000;s000100000;s000010000;s000001000;s000000100;s000000010",
            0, 0, 0, 0, 0, 0, 0, 0, 0);
        for (int sign = 0; sign <= 7; sign++) {
            x.put(0, sign, 8);
            C.dueFault(x, "left by " + sign, x.who(0, 0, 0, 0), sign);
            x.put(0, sign, 0);
        }
    }

    /** Term WHO: "of several the least". */
    static void whoOfSeveral() {
        NineSmells x = door72(THREE);
        C.dueFault(x, "1 and 2 have ten", x.who(0, 0, 0, 0), 1);
        x.bound(36);
        C.dueFault(x, "all have ten", x.who(0, 0, 0, 0), 0);
        NineSmells eight = door72("s000000000;s900000000;s900000000;s900000000;"
            + "s900000000;s900000000;s900000000;s900000000");
        C.dueFault(eight, "seven of eight have ten", eight.who(0, 0, 0, 0), 1);
    }

    // ---- odds

    /** Promise 23: "ODDS of a SIGN, by nine such cells.": those from i on, of each LANE. */
    static void oddsOfNineCells() {
        NineSmells x = Checks.registered(THREE);
        x.bound(0);
        for (int lane = 0; lane <= 2; lane++) {
            Checks.row(x, lane, lane, 100, 72, 0, 0, 0, 0, 0, 0, 0, 0, 100);
            C.due("upper", x.odds(1, 0, lane, lane, 1, 0), 2);
            C.due("lower", x.odds(1, 0, lane, lane, 1, 1), 5);
            C.dueLost(x, "one ahead", x.odds(1, 0, lane, lane, 0, 1), 0);
            C.dueLost(x, "one behind", x.odds(1, 0, lane, lane, 2, 1), 0);
        }
    }

    /** Promise 23: "by nine such cells": those of the SHEET that is told, whatever the others have. */
    static void oddsOfOneSheet() {
        NineSmells x = Checks.registered("s900000000;s090000000;s009000000;s000900000");
        x.bound(0);
        for (int k = 0; k <= 3; k++) {
            x.sheet(k, 0, 9);
            x.put(k, k, 72);
        }
        for (int k = 0; k <= 3; k++) {
            for (int sign = 0; sign <= 3; sign++) {
                C.due("sign " + sign + " by sheet " + k, x.odds(sign, 0, k, 0, 0, 0), sign == k ? 1 : 0);
            }
            C.due("who by sheet " + k, x.who(0, k, 0, 0), k);
        }
        x.put(0, 8, 100);
        C.due("sheet 0 is no DOOR, sheet 1 is", x.odds(1, 0, 1, 0, 0, 0), 1);
        C.dueLost(x, "sheet 0", x.odds(0, 0, 0, 0, 0, 0), 0);
        x.bound(999);
        x.put(0, 8, 0);
        x.put(3, 8, 100);
        C.dueLost(x, "sheet 3 is no DOOR, sheet 0 is", x.odds(0, 0, 3, 0, 0, 0), 0);
    }

    /** Promise 23: "UNKNOWN: SIGN", ahead of all FAULTS. */
    static void oddsOfNoSign() {
        NineSmells x = Checks.faulted(THREE);
        x.bound(999);
        for (int sign : NO_SIGN) {
            C.dueLost(x, "sign " + sign, x.odds(sign, 0, 0, 0, 0, 0), 0);
            C.dueLost(x, "sign " + sign + ", CAST too", x.odds(sign, 0, 0, 1, 0, 0), 0);
            C.dueLost(x, "sign " + sign + ", NULL too", x.odds(sign, 0, 1, 0, 0, 0), 0);
            C.dueLost(x, "sign " + sign + ", INDEX too", x.odds(sign, 0, 0, 0, -1, 0), 0);
        }
    }

    /** Promise 23: "SHEET;": UNKNOWN. */
    static void oddsOfNoSheet() {
        NineSmells x = Checks.faulted(THREE);
        x.bound(999);
        for (int k : NO_SHEET) {
            C.dueLost(x, "sheet " + k, x.odds(0, 0, k, 0, 0, 0), 0);
            C.dueLost(x, "sheet " + k + ", INDEX too", x.odds(0, 0, k, 0, -1, 0), 0);
        }
    }

    /** Promise 23: "OUTSIDE: lane", ahead of all FAULTS. */
    static void oddsOfNoLane() {
        NineSmells x = Checks.faulted(THREE);
        x.bound(999);
        for (int lane : NO_LANE) {
            C.dueLost(x, "lane " + lane, x.odds(0, 0, 0, lane, 0, 0), 0);
            C.dueLost(x, "lane " + lane + ", NULL too", x.odds(0, 0, 1, lane, 0, 0), 0);
            C.dueLost(x, "lane " + lane + ", INDEX too", x.odds(0, 0, 0, lane, -1, 0), 0);
        }
    }

    /** Promise 23: "CAST", ahead of INDEX and OUTSIDE; nothing is no CAST. */
    static void oddsOfAnotherLane() {
        NineSmells x = Checks.registered(THREE);
        x.bound(999);
        for (int has = 0; has <= 2; has++) {
            x.sheet(has, has, 9);
            for (int lane = 0; lane <= 2; lane++) {
                if (lane != has) {
                    C.dueLost(x, has + " as " + lane, x.odds(0, 0, has, lane, 0, 0), 2);
                    C.dueLost(x, "INDEX too", x.odds(0, 0, has, lane, 1, 0), 2);
                    C.dueLost(x, "WIND, which too", x.odds(0, 4, has, lane, 0, 2), 2);
                }
            }
        }
        x.lose(0);
        C.dueLost(x, "it has nothing now", x.odds(0, 0, 0, 1, 0, 0), 1);
    }

    /** Promise 23: "NULL", ahead of INDEX and OUTSIDE. */
    static void oddsOfNothing() {
        NineSmells x = Checks.registered(THREE);
        C.dueLost(x, "nothing", x.odds(0, 0, 1, 0, 0, 0), 1);
        C.dueLost(x, "INDEX too", x.odds(0, 0, 1, 1, -1, 0), 1);
        C.dueLost(x, "WIND, which too", x.odds(0, 4, 1, 2, 0, 2), 1);
    }

    /** Promise 23: "INDEX", ahead of OUTSIDE: nine cells. */
    static void oddsBeyond() {
        NineSmells x = Checks.registered(THREE);
        x.bound(999);
        x.sheet(0, 0, 10);
        C.due("from 0", x.odds(0, 0, 0, 0, 0, 1), 3);
        C.due("from 1", x.odds(0, 0, 0, 0, 1, 1), 3);
        for (int i : new int[] {-1, 2, 10, 11, Checks.LEAST, Checks.MOST, Checks.MOST - 8}) {
            C.dueLost(x, "from " + i, x.odds(0, 0, 0, 0, i, 1), 3);
            C.dueLost(x, "from " + i + ", WIND, which too", x.odds(0, 4, 0, 0, i, 2), 3);
        }
        x.put(0, 2, -1);
        C.dueLost(x, "from 2, a number too", x.odds(0, 0, 0, 0, 2, 1), 3);
        x.sheet(0, 0, 8);
        C.dueLost(x, "eight cells", x.odds(0, 0, 0, 0, 0, 1), 3);
    }

    /** Promise 23: "OUTSIDE: a number": each of nine, ahead of STATE. */
    static void oddsOfNoNumber() {
        NineSmells x = Checks.registered(THREE);
        x.bound(999);
        x.sheet(0, 2, 9);
        for (int i = 0; i < 9; i++) {
            for (int v : new int[] {-1, 100, 256, Checks.LEAST, Checks.MOST}) {
                x.put(0, i, v);
                C.dueLost(x, v + " in cell " + i, x.odds(0, 0, 0, 2, 0, 1), 0);
            }
            x.put(0, i, 99);
        }
        C.due("99 each", x.odds(2, 0, 0, 2, 0, 1), 3);
    }

    /** Promise 23: "WIND": OUTSIDE. */
    static void oddsOfNoWind() {
        NineSmells x = Checks.registered(THREE);
        x.bound(999);
        x.sheet(0, 0, 9);
        for (int wind : NO_WIND) {
            C.dueLost(x, "WIND " + wind, x.odds(0, wind, 0, 0, 0, 1), 0);
        }
        C.due("WIND 3", x.odds(0, 3, 0, 0, 0, 1), 3);
    }

    /** Promise 23: "which": OUTSIDE; 0 is the upper number, 1 the lower one. */
    static void oddsOfNoWhich() {
        NineSmells x = Checks.registered(THREE);
        x.bound(999);
        x.sheet(0, 0, 9);
        for (int which : new int[] {-1, 2, Checks.LEAST, Checks.MOST}) {
            C.dueLost(x, "which " + which, x.odds(0, 0, 0, 0, 0, which), 0);
        }
        C.due("which 0", x.odds(0, 0, 0, 0, 0, 0), 1);
        C.due("which 1", x.odds(0, 0, 0, 0, 0, 1), 3);
    }

    /** Promise 23: "STATE: none MAY be", of any SIGN. */
    static void oddsIfNoneMayBe() {
        NineSmells x = door(THREE, 72, 0, 0, 0, 0, 0, 0, 0, 1);
        for (int sign = 0; sign <= 2; sign++) {
            C.dueLost(x, "upper of " + sign, x.odds(sign, 0, 0, 0, 0, 0), 0);
            C.dueLost(x, "lower of " + sign, x.odds(sign, 3, 0, 0, 0, 1), 0);
        }
        x.bound(1);
        dueOdds(x, 1, 0, 2, 5);
    }

    /** Promise 23: "LOST: UNKNOWN": such a call changes nothing. */
    static void oddsChangesNothing() {
        NineSmells x = door72(THREE);
        NineSmells y = door72(THREE);
        x.odds(0, 0, 0, 0, 0, 0);
        x.who(3, 0, 0, 0);
        x.odds(3, 0, 0, 0, 0, 0);
        x.odds(0, 4, 0, 0, 0, 0);
        C.same("state", Checks.state(x), Checks.state(y));
    }

    // ---- who

    /** Promise 24: "WHO, by nine such cells": those from i on, of each LANE. */
    static void whoByNineCells() {
        NineSmells x = Checks.registered("p900000000;s090000000;s009000000");
        x.bound(0);
        for (int lane = 0; lane <= 2; lane++) {
            Checks.row(x, lane, lane, 0, 0, 0, 72, 0, 0, 0, 0, 0, 0, 0, 0);
            C.dueFault(x, "from 0", x.who(0, lane, lane, 0), -9);
            C.dueFault(x, "from 1", x.who(0, lane, lane, 1), 2);
            C.dueFault(x, "from 2", x.who(0, lane, lane, 2), 1);
            C.dueFault(x, "from 3", x.who(0, lane, lane, 3), 0);
        }
    }

    /** Promise 24: "NONE: none MAY be", and without a REGISTER. */
    static void whoIfNoneMayBe() {
        NineSmells x = door(THREE, 72, 0, 0, 0, 0, 0, 0, 0, 1);
        C.dueFault(x, "none", x.who(0, 0, 0, 0), -9);
        x.bound(1);
        C.dueFault(x, "by more BOUND", x.who(0, 0, 0, 0), 1);
        NineSmells none = new NineSmells();
        none.sheet(0, 0, 9);
        C.dueFault(none, "without a REGISTER", none.who(0, 0, 0, 0), -9);
        NineSmells fewer = door72("s000000000;s000000000;s900000000");
        C.dueFault(fewer, "the third one", fewer.who(0, 0, 0, 0), 2);
        Checks.enter(fewer, "s000000000;s000000000");
        C.dueFault(fewer, "the third one of an earlier REGISTER", fewer.who(0, 0, 0, 0), -9);
    }

    /** Promise 24: "UNKNOWN: SHEET", ahead of all others. */
    static void whoOfNoSheet() {
        NineSmells x = Checks.faulted(THREE);
        for (int k : NO_SHEET) {
            C.dueFault(x, "sheet " + k, x.who(0, k, 0, 0), -1);
            C.dueFault(x, "sheet " + k + ", all others too", x.who(4, k, 3, -1), -1);
        }
    }

    /** Promise 24: "OUTSIDE: lane", ahead of all FAULTS. */
    static void whoOfNoLane() {
        NineSmells x = Checks.faulted(THREE);
        for (int lane : NO_LANE) {
            C.dueFault(x, "lane " + lane, x.who(0, 0, lane, 0), -2);
            C.dueFault(x, "lane " + lane + ", INDEX too", x.who(0, 0, lane, -1), -2);
            C.dueFault(x, "lane " + lane + ", NULL too", x.who(0, 1, lane, 0), -2);
        }
    }

    /** Promise 24: "CAST", ahead of INDEX and OUTSIDE; nothing is no CAST. */
    static void whoOfAnotherLane() {
        NineSmells x = Checks.registered(THREE);
        x.bound(999);
        for (int has = 0; has <= 2; has++) {
            x.sheet(has, has, 9);
            for (int lane = 0; lane <= 2; lane++) {
                C.dueFault(x, has + " as " + lane, x.who(0, has, lane, 0), lane == has ? 0 : Checks.CAST);
                int beyond = lane == has ? Checks.INDEX : Checks.CAST;
                C.dueFault(x, has + " as " + lane + ", INDEX too", x.who(0, has, lane, 1), beyond);
                int noWind = lane == has ? -2 : Checks.CAST;
                C.dueFault(x, has + " as " + lane + ", WIND too", x.who(4, has, lane, 0), noWind);
            }
        }
        x.lose(0);
        C.dueFault(x, "it has nothing now", x.who(0, 0, 1, 0), Checks.NULL);
    }

    /** Promise 24: "NULL", ahead of INDEX and OUTSIDE. */
    static void whoOfNothing() {
        NineSmells x = Checks.registered(THREE);
        C.dueFault(x, "nothing", x.who(0, 1, 0, 0), Checks.NULL);
        C.dueFault(x, "INDEX too", x.who(0, 1, 1, -1), Checks.NULL);
        C.dueFault(x, "WIND too", x.who(4, 1, 2, 0), Checks.NULL);
    }

    /** Promise 24: "INDEX", ahead of OUTSIDE: nine cells. */
    static void whoBeyond() {
        NineSmells x = Checks.registered(THREE);
        x.bound(999);
        x.sheet(0, 0, 10);
        C.dueFault(x, "from 0", x.who(0, 0, 0, 0), 0);
        C.dueFault(x, "from 1", x.who(0, 0, 0, 1), 0);
        for (int i : new int[] {-1, 2, 10, 11, Checks.LEAST, Checks.MOST, Checks.MOST - 8}) {
            C.dueFault(x, "from " + i, x.who(0, 0, 0, i), Checks.INDEX);
            C.dueFault(x, "from " + i + ", WIND too", x.who(4, 0, 0, i), Checks.INDEX);
        }
        x.put(0, 2, -1);
        C.dueFault(x, "from 2, a number too", x.who(0, 0, 0, 2), Checks.INDEX);
        x.sheet(0, 0, 8);
        C.dueFault(x, "eight cells", x.who(0, 0, 0, 0), Checks.INDEX);
    }

    /** Promise 24: "OUTSIDE: a number", as ints too, ahead of NONE. */
    static void whoOfNoNumber() {
        NineSmells x = door(THREE, 0, 0, 0, 0, 0, 0, 0, 0, 100);
        C.dueFault(x, "100, where none MAY be", x.who(0, 0, 0, 0), -2);
        x.bound(999);
        Checks.row(x, 1, 2, 72, 0, 0, 0, 0, 0, 0, 0, 99);
        C.dueFault(x, "99", x.who(0, 1, 2, 0), 0);
        for (int v : new int[] {-1, 100, 256, Checks.LEAST, Checks.MOST}) {
            x.put(1, 8, v);
            C.dueFault(x, "last is " + v, x.who(0, 1, 2, 0), -2);
            x.put(1, 8, 0);
            x.put(1, 0, v);
            C.dueFault(x, "first is " + v, x.who(0, 1, 2, 0), -2);
            x.put(1, 0, 0);
        }
        C.dueFault(x, "0", x.who(0, 1, 2, 0), 0);
    }

    /** Promise 24: "WIND.": OUTSIDE, ahead of NONE. */
    static void whoOfNoWind() {
        NineSmells x = door(THREE, 0, 0, 0, 0, 0, 0, 0, 0, 99);
        for (int wind : NO_WIND) {
            C.dueFault(x, "WIND " + wind, x.who(wind, 0, 0, 0), -2);
        }
        C.dueFault(x, "WIND 0", x.who(0, 0, 0, 0), -9);
        C.dueFault(x, "WIND 3", x.who(3, 0, 0, 0), -9);
    }
}
