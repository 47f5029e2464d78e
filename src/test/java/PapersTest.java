/** Promises 8 to 16: papers. */
public final class PapersTest {
    private static final Checks C = new Checks("PapersTest");
    /** Each smells of two SMELLS of its own, but for the last, which smells of one. */
    private static final String FOUR = "p900100000;f090020000;s009003000;p000900000";

    public static void main(String[] args) {
        paper();
        ofPaper();
        smells();
        coldAndFading();
        washed();
        flood();
        far();
        fits();
        nearestOfSeveral();
        proved();
        provedOnlyIfTheOnlyNearest();
        again();
        C.end();
    }

    private static void paper() {
        NineSmells x = Checks.registered(FOUR);
        C.due("no first sign", x.paper(-1, 0, 10), -1);
        C.due("no first sign", x.paper(4, 0, 0), -1);
        C.due("no second sign", x.paper(0, -1, 0), -1);
        C.due("no second sign", x.paper(0, 4, 0), -1);
        C.due("one sign", x.paper(3, 3, 10), -1);
        C.due("cold below 0", x.paper(0, 1, -1), -2);
        C.due("cold above 9", x.paper(0, 1, 10), -2);
        C.due("many(1)", x.many(1), 0);
        for (int p = 0; p < 8; p++) {
            C.due("paper " + p, x.paper(0, 1, p == 0 ? 9 : 0), p);
        }
        C.due("a ninth", x.paper(0, 1, 0), -4);
        C.due("a ninth, one sign", x.paper(1, 1, 0), -1);
        C.due("a ninth, cold above 9", x.paper(0, 1, 10), -2);
        C.due("many(1)", x.many(1), 8);
    }

    private static void ofPaper() {
        NineSmells x = Checks.registered(FOUR);
        x.paper(2, 0, 9);
        x.year(7);
        x.paper(0, 3, 1);
        x.wash(1, 0);
        x.wash(1, 8);
        x.flood(3);
        x.flood(9);
        x.paper(1, 3, 0);
        int[][] want = {{2, 0, 0, 9, 0, 12}, {0, 3, 7, 1, 257, 12}, {1, 3, 7, 0, 0, 0}};
        for (int p = 0; p < 3; p++) {
            for (int what = 0; what <= 5; what++) {
                C.due("ofPaper(" + p + ", " + what + ")", x.ofPaper(p, what), want[p][what]);
            }
        }
        C.due("ofPaper(0, -1)", x.ofPaper(0, -1), -2);
        C.due("ofPaper(0, 6)", x.ofPaper(0, 6), -2);
        C.due("ofPaper(3, 6)", x.ofPaper(3, 6), -1);
        C.due("ofPaper(-1, 0)", x.ofPaper(-1, 0), -1);
    }

    private static void smells() {
        NineSmells x = Checks.registered(FOUR);
        x.year(10);
        x.paper(1, 0, 0);
        int[] now = {36, 36, 0, 4, 8, 0, 0, 0, 0};
        for (int smell = 0; smell < 9; smell++) {
            C.due("smell " + smell, x.smells(0, smell, 10), now[smell]);
        }
        C.due("before it was signed", x.smells(0, 0, 9), -2);
        C.due("year 99", x.smells(0, 0, 99), 0);
        C.due("FIELD, year 99", x.smells(0, 1, 99), 36 >> 8);
        C.due("year 100", x.smells(0, 0, 100), -2);
        C.due("smell 9", x.smells(0, 9, 100), -1);
        C.due("smell -1", x.smells(0, -1, 10), -1);
        C.due("no paper", x.smells(1, 0, 10), -1);
        C.due("no paper", x.smells(-1, 0, 10), -1);
        x.year(20);
        C.due("a year that is over", x.smells(0, 0, 10), 36);
        C.due("PERSON, five years", x.smells(0, 0, 15), 18);
        C.due("FIELD, five years", x.smells(0, 1, 15), 36);
        C.due("FIELD, ten years", x.smells(0, 1, 20), 18);
    }

    /** Each product fades by itself: 4 * 3 >> 2 is 3, and 4 * 3 + 4 * 3 >> 2 is 6; 4 * 1 >> 2 twice is 2. */
    private static void coldAndFading() {
        NineSmells x = Checks.registered("p310000000;p111000000;s010000000");
        x.paper(0, 1, 5);
        C.due("12 and 4 less 5", x.smells(0, 0, 0), 11);
        C.due("4 and 4 less 5", x.smells(0, 1, 0), 3);
        C.due("4 less 5", x.smells(0, 2, 0), 0);
        C.due("0 less 5", x.smells(0, 3, 0), 0);
        C.due("6 and 2 less 5", x.smells(0, 0, 5), 3);
        C.due("3 and 1 less 5", x.smells(0, 0, 10), 0);
        x.paper(0, 1, 0);
        C.due("1 and 0", x.smells(1, 0, 15), 1);
        C.due("0 and 0", x.smells(1, 1, 15), 0);
        x.half(0, 1);
        C.due("another half", x.smells(1, 0, 1), 8);
        C.due("the half of another smell", x.smells(1, 1, 1), 8);
        x.paper(2, 1, 0);
        C.due("a SEAL's stays", x.smells(2, 1, 99), 4);
    }

    private static void washed() {
        NineSmells x = Checks.registered(FOUR);
        x.paper(0, 1, 0);
        x.paper(0, 1, 0);
        C.due("wash(0, 0)", x.wash(0, 0), 1);
        C.due("wash(0, 0)", x.wash(0, 0), 0);
        C.due("wash(0, 8)", x.wash(0, 8), 1);
        C.due("set", x.ofPaper(0, 4), 257);
        C.due("set of the other one", x.ofPaper(1, 4), 0);
        C.due("washed", x.smells(0, 0, 0), 0);
        C.due("not of that", x.smells(0, 1, 0), 36);
        C.due("not that paper", x.smells(1, 0, 0), 36);
        x.flood(4);
        C.due("washed and drowned", x.smells(0, 0, 0), 4);
        C.due("drowned", x.smells(0, 1, 0), 40);
        C.due("drowned, of nothing", x.smells(0, 2, 0), 4);
        C.due("wash(1, 0)", x.wash(1, 0), 1);
        C.due("washed of what it was drowned by", x.smells(1, 0, 0), 4);
        C.due("no paper", x.wash(2, 9), -1);
        C.due("no paper", x.wash(-1, 0), -1);
        C.due("smell 9", x.wash(0, 9), -1);
        C.due("smell -1", x.wash(0, -1), -1);
    }

    private static void flood() {
        NineSmells x = Checks.registered(FOUR);
        C.due("flood of none", x.flood(9), 0);
        x.paper(0, 1, 9);
        C.due("not drowned by an earlier flood", x.ofPaper(0, 5), 0);
        C.due("flood(1)", x.flood(1), 1);
        x.paper(0, 2, 9);
        C.due("flood(9)", x.flood(9), 2);
        C.due("flood(0)", x.flood(0), -2);
        C.due("flood(10)", x.flood(10), -2);
        C.due("drowned by both", x.ofPaper(0, 5), 10);
        C.due("drowned by one", x.ofPaper(1, 5), 9);
        C.due("36 less 9, and 10", x.smells(0, 0, 0), 37);
        C.due("0 less 9, and 10", x.smells(0, 8, 0), 10);
    }

    private static void far() {
        NineSmells x = Checks.registered(FOUR);
        x.paper(0, 1, 0);
        C.due("from its own", x.far(0, 0, 1), 0);
        C.due("from its own, turned", x.far(0, 1, 0), 0);
        C.due("from 0 and 2", x.far(0, 0, 2), 36 + 36 + 8 + 12);
        C.due("from 2 and 3", x.far(0, 2, 3), 36 + 36 + 36 + 32 + 8 + 12);
        x.year(5);
        C.due("five years later", x.far(0, 0, 1), 18 + 2);
        C.due("from 0 and 3", x.far(0, 0, 3), 18 + 36 + 38 + 8);
        x.flood(1);
        C.due("drowned", x.far(0, 0, 1), 17 + 1 + 1 + 1 + 1 + 1 + 1 + 1 + 1);
        C.due("no paper", x.far(1, 0, 1), -1);
        C.due("no paper", x.far(-1, 0, 1), -1);
        C.due("one sign", x.far(0, 1, 1), -1);
        C.due("no sign", x.far(0, 4, 1), -1);
        C.due("no sign", x.far(0, 1, 4), -1);
        C.due("no sign", x.far(0, -1, 1), -1);
    }

    private static void fits() {
        NineSmells x = Checks.registered(FOUR);
        x.paper(2, 1, 3);
        // 36 + 36 + 8 + 12 less 3 each: 12 from its own two.
        C.due("FIT", x.fits(0, 0), 1);
        C.due("NEAREST", x.fits(0, 1), 12);
        C.due("FAR", x.fits(0, 2), 12);
        x.bound(11);
        C.due("FIT, one less", x.fits(0, 0), 0);
        C.due("NEAREST that does not fit", x.fits(0, 1), 12);
        x.bound(12);
        C.due("FIT, as far", x.fits(0, 0), 1);
        x.bound(999);
        C.due("FIT, all", x.fits(0, 0), 6);
        x.year(20);
        // The FIELD's faded by two halves: 9 less 3, and 2 less 3.
        C.due("FAR, later", x.fits(0, 2), 30 + 3 + 8 + 3);
        C.due("fits(0, -1)", x.fits(0, -1), -2);
        C.due("fits(0, 3)", x.fits(0, 3), -2);
        C.due("fits(1, 3)", x.fits(1, 3), -1);
        C.due("fits(-1, 0)", x.fits(-1, 0), -1);
    }

    private static void nearestOfSeveral() {
        NineSmells x = Checks.registered("p100000000;p200000000;p300000000;p200000000;p400000000");
        x.paper(1, 3, 0);
        C.due("0 and 2 as near as its own", x.fits(0, 1), 2);
        C.due("FAR", x.fits(0, 2), 0);
        x.paper(4, 3, 0);
        C.due("1 and 4 as near", x.fits(1, 1), 14);
        x.bound(0);
        C.due("FIT: 02, 13", x.fits(0, 0), 2);
        C.due("FIT: 14, 34", x.fits(1, 0), 2);
        x.bound(4);
        // 16 is left; pairs sum to 3, 4, 3, 5, 5, 4, 6, 5, 7, 6: within 1 of 4.
        C.due("FIT: within 4", x.fits(0, 0), 7);
    }

    private static void proved() {
        NineSmells x = Checks.registered(FOUR);
        C.due("of none", x.proved(), 0);
        for (int p = 0; p < 8; p++) {
            x.paper(p % 2 == 0 ? 1 : 0, p % 2 == 0 ? 0 : 1, p);
        }
        // COLD c takes c of 36, 36 and 8, and 4 at most of 4: 0, 4, 8, 12, 16, 19, 22, 25 far.
        C.due("all", x.proved(), 255);
        x.bound(24);
        C.due("COLD 0 to 6", x.proved(), 127);
        x.bound(21);
        C.due("COLD 0 to 5", x.proved(), 63);
        x.bound(18);
        C.due("COLD 0 to 4", x.proved(), 31);
        x.bound(16);
        C.due("as far as BOUND", x.proved(), 31);
        x.bound(15);
        C.due("one less", x.proved(), 15);
        x.bound(0);
        C.due("COLD 0", x.proved(), 1);
        x.bound(999);
        x.year(99);
        C.due("faded", x.proved(), 0);
    }

    private static void provedOnlyIfTheOnlyNearest() {
        NineSmells x = Checks.registered("p100000000;p200000000;p300000000;p200000000");
        x.paper(1, 3, 0);
        x.paper(0, 1, 0);
        x.paper(2, 1, 0);
        C.due("another one as near each", x.proved(), 0);
        NineSmells y = Checks.registered("p100000000;p210000000;p300000000;p200000000");
        y.paper(1, 3, 0);
        y.paper(3, 1, 0);
        y.paper(3, 0, 0);
        y.wash(1, 1);
        C.due("a nearer one, when washed", y.proved(), 1 + 4);
        NineSmells two = Checks.registered("p100000000;p100000000");
        two.paper(1, 0, 0);
        C.due("there is no other pair", two.proved(), 1);
    }

    private static void again() {
        NineSmells x = Checks.registered(FOUR);
        x.paper(0, 1, 0);
        x.paper(0, 2, 0);
        x.bound(50);
        // 18 + 2 years 5 .. 9; then 27 + 18 + 3 + 4 = 52.
        C.due("first year beyond", x.again(0), 10);
        x.bound(52);
        // 15 .. 19: 32 + 18 + 4 + 4 = 58.
        C.due("with more BOUND", x.again(0), 15);
        // In year 20 2 and 0 are left of the PERSON: 34 + 4 from its own, 2 + 36 from 2 and 3.
        C.due("SEAL and PERSON", x.again(1), 20);
        x.wash(1, 2);
        C.due("washed: 36 in year 0, 54 + 2 in year 5", x.again(1), 5);
        x.year(6);
        C.due("not before this year", x.again(1), 6);
        C.due("the other one", x.again(0), 15);
        C.due("no paper", x.again(2), -1);
        C.due("no paper", x.again(-1), -1);
        NineSmells seals = Checks.registered("s900000000;s090000000");
        seals.paper(0, 1, 0);
        C.due("SEALS", seals.again(0), -9);
        seals.year(99);
        C.due("SEALS, year 99", seals.again(0), -9);
        seals.flood(9);
        seals.bound(80);
        C.due("drowned, year 99", seals.again(0), 99);
    }
}
