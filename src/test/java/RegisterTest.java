/** Promises 1 to 7 and 35: a new object, the register, its YEAR and BOUND. */
public final class RegisterTest {
    private static final Checks C = new Checks("RegisterTest");
    private static final String EIGHT = "p123456789;f987654321;s000000000;p111111111;"
        + "p222222222;f333333333;s444444444;s999999999";

    public static void main(String[] args) {
        newObject();
        takenTexts();
        textFaults();
        refusedRegister();
        faultyRegister();
        hugeSpans();
        badTextChangesNothing();
        newTextMakesAnew();
        ofSign();
        half();
        bound();
        year();
        faded();
        many();
        C.end();
    }

    private static void newObject() {
        NineSmells x = new NineSmells();
        for (int what = 0; what <= 3; what++) {
            C.due("many(" + what + ")", x.many(what), 0);
        }
        C.due("fault()", x.fault(), 0);
        C.due("trace()", x.trace(), 0);
        C.due("ofSign(0, 0)", x.ofSign(0, 0), -1);
        C.due("faded(0, 0, 0, 0)", x.faded(0, 0, 0, 0), -1);
        C.due("paper(0, 1, 0)", x.paper(0, 1, 0), -1);
        C.due("ofPaper(0, 0)", x.ofPaper(0, 0), -1);
        C.due("smells(0, 0, 0)", x.smells(0, 0, 0), -1);
        C.due("wash(0, 0)", x.wash(0, 0), -1);
        C.due("flood(1)", x.flood(1), 0);
        C.due("far(0, 0, 1)", x.far(0, 0, 1), -1);
        C.due("fits(0, 0)", x.fits(0, 0), -1);
        C.due("proved()", x.proved(), 0);
        C.due("again(0)", x.again(0), -1);
        C.due("apart(0, 0)", x.apart(0, 0), -1);
        C.due("twins(-1)", x.twins(-1), 0);
        C.due("twins(0)", x.twins(0), -9);
        C.due("near(0, 0, 0, 0)", x.near(0, 0, 0, 0), -1);
        C.due("steals(0, 1)", x.steals(0, 1), -1);
        C.due("tell(0)", x.tell(0), -1);
        C.due("stop(0)", x.stop(0), -1);
        for (int k = 0; k <= 3; k++) {
            C.dueLost(x, "cell(" + k + ", 0, 0)", x.cell(k, 0, 0), 1);
            C.due("lose(" + k + ")", x.lose(k), 0);
        }
        Checks.row(x, 0, 0, 0, 0, 0, 0, 0, 0, 0, 0, 0);
        C.dueFault(x, "who without a register", x.who(0, 0, 0, 0), -9);
        C.dueFault(x, "as(0, 0)", x.as(0, 0), -1);
    }

    private static void takenTexts() {
        for (int lane = 0; lane <= 2; lane++) {
            NineSmells x = new NineSmells();
            Checks.write(x, lane, lane, 0, EIGHT);
            C.dueFault(x, "register of eight", x.register(lane, lane, 0, EIGHT.length()), 8);
            C.due("kind of 7", x.ofSign(7, -1), 2);
            C.due("first strength of 0", x.ofSign(0, 0), 1);
            C.due("last strength of 0", x.ofSign(0, 8), 9);
            C.due("last strength of 1", x.ofSign(1, 8), 1);
        }
        NineSmells x = new NineSmells();
        Checks.write(x, 2, 1, 5, "f000000001;s000000020;p");
        C.dueFault(x, "register in the midst", x.register(2, 1, 5, 21), 2);
        C.due("many(0)", x.many(0), 2);
        C.due("kind of 0", x.ofSign(0, -1), 1);
        C.due("kind of 1", x.ofSign(1, -1), 2);
        C.due("strength of 0", x.ofSign(0, 8), 1);
        C.due("strength of 1", x.ofSign(1, 7), 2);
    }

    private static void textFault(String text, int place) {
        NineSmells x = new NineSmells();
        C.dueFault(x, "register of \"" + text + "\"", Checks.enter(x, text), -100 - place);
        C.due("many(0)", x.many(0), 0);
    }

    private static void textFaults() {
        textFault("", 0);
        textFault("p", 1);
        textFault("x", 0);
        textFault("P", 0);
        textFault("q23456789", 0);
        textFault(";", 0);
        textFault("1", 0);
        textFault("pp", 1);
        textFault("p;", 1);
        textFault("p/", 1);
        textFault("p:", 1);
        textFault("p12345678", 9);
        textFault("p12345678;", 9);
        textFault("p123456789", 10);
        textFault("p1234567890", 10);
        textFault("p123456789:", 10);
        textFault("p123456789;", 11);
        textFault("p123456789;;", 11);
        textFault("p123456789;f", 12);
        textFault("p123456789;e00000000", 11);
        textFault("p123456789;f12345678", 20);
        textFault("p123456789;f123456789;", 22);
        textFault("p123456789;f1234x6789;s", 16);
        textFault("p123456789;f123456789s", 21);
        textFault(EIGHT + ";", 87);
        textFault(EIGHT + "0", 87);
        textFault(EIGHT + ";p1", 87);
        textFault("p\u012f", 1);
        NineSmells x = new NineSmells();
        Checks.row(x, 0, 2, 112 + 256, -112);
        C.due("register of an int alike in its last byte", x.register(0, 2, 0, 1), -100);
        C.due("register of a number below 0", x.register(0, 2, 1, 1), -100);
        C.due("register of nothing at the end", x.register(0, 2, 2, 0), -100);
    }

    private static void refusedRegister() {
        NineSmells x = new NineSmells();
        Checks.write(x, 0, 0, 0, "p123456789;f987654321");
        C.dueFault(x, "no cells", x.register(0, 0, 22, 0), Checks.INDEX);
        C.dueFault(x, "no sheet -1", x.register(-1, 3, -1, -1), -1);
        C.dueFault(x, "no sheet 4", x.register(4, 0, 0, 21), -1);
        C.dueFault(x, "no lane -1", x.register(0, -1, -1, -1), -2);
        C.dueFault(x, "no lane 3", x.register(0, 3, 0, 21), -2);
        C.dueFault(x, "no lane, no row", x.register(1, 3, 0, 21), -2);
        C.due("many(0)", x.many(0), 0);
    }

    private static void faultyRegister() {
        NineSmells x = new NineSmells();
        Checks.write(x, 0, 0, 0, "p123456789;f987654321");
        C.dueFault(x, "another lane", x.register(0, 1, -1, -1), Checks.CAST);
        C.dueFault(x, "another lane", x.register(0, 2, 0, 21), Checks.CAST);
        C.dueFault(x, "nothing", x.register(1, 2, -1, -1), Checks.NULL);
        C.dueFault(x, "n below 0", x.register(0, 0, -1, -1), Checks.SIZE);
        C.dueFault(x, "n least", x.register(0, 0, 0, Integer.MIN_VALUE), Checks.SIZE);
        C.dueFault(x, "i below 0", x.register(0, 0, -1, 21), Checks.INDEX);
        C.dueFault(x, "i below 0, none", x.register(0, 0, -1, 0), Checks.INDEX);
        C.dueFault(x, "beyond", x.register(0, 0, 0, 22), Checks.INDEX);
        C.dueFault(x, "beyond", x.register(0, 0, 1, 21), Checks.INDEX);
        C.dueFault(x, "none, at the end", x.register(0, 0, 21, 0), -100);
        C.dueFault(x, "none, behind the end", x.register(0, 0, 22, 0), Checks.INDEX);
        C.due("many(0)", x.many(0), 0);
        x.lose(0);
        C.dueFault(x, "lost", x.register(0, 0, 0, 21), Checks.NULL);
    }

    private static void hugeSpans() {
        NineSmells x = new NineSmells();
        Checks.write(x, 0, 0, 0, "p123456789;f987654321");
        int most = Integer.MAX_VALUE;
        C.dueFault(x, "n most", x.register(0, 0, 0, most), Checks.INDEX);
        C.dueFault(x, "i most", x.register(0, 0, most, 0), Checks.INDEX);
        C.dueFault(x, "i, n most", x.register(0, 0, most, most), Checks.INDEX);
        C.dueFault(x, "i least", x.register(0, 0, Integer.MIN_VALUE, most), Checks.INDEX);
        C.dueFault(x, "i 1, n most", x.register(0, 0, 1, most), Checks.INDEX);
    }

    private static void badTextChangesNothing() {
        NineSmells x = Checks.registered("p123456789;f987654321");
        x.bound(77);
        x.half(0, 2);
        x.paper(1, 0, 4);
        x.year(6);
        C.due("a bad text", Checks.enter(x, "s000000000;s00000000x"), -120);
        C.due("a text of one", Checks.enter(x, "s000000000"), -110);
        C.due("many(0)", x.many(0), 2);
        C.due("many(1)", x.many(1), 1);
        C.due("many(2)", x.many(2), 6);
        C.due("many(3)", x.many(3), 77);
        C.due("kind of 0", x.ofSign(0, -1), 0);
        C.due("strength of 1", x.ofSign(1, 0), 9);
        C.due("half(0, 3)", x.half(0, 3), 2);
        C.due("ofPaper(0, 3)", x.ofPaper(0, 3), 4);
    }

    private static void newTextMakesAnew() {
        NineSmells x = Checks.registered("p123456789;f987654321;p000000000");
        x.bound(77);
        x.half(0, 2);
        x.half(8, 9);
        for (int p = 0; p < 8; p++) {
            x.paper(1, 0, 4);
        }
        x.wash(0, 3);
        x.flood(5);
        x.year(6);
        x.tell(0);
        Checks.row(x, 0, 0, 5);
        C.due("a new text", Checks.enter(x, "s111111111;s000000001"), 2);
        C.due("many(0)", x.many(0), 2);
        C.due("many(1)", x.many(1), 0);
        C.due("many(2)", x.many(2), 0);
        C.due("many(3)", x.many(3), 40);
        C.due("ofSign(0, -1)", x.ofSign(0, -1), 2);
        C.due("ofSign(1, 0)", x.ofSign(1, 0), 0);
        C.due("ofSign(2, 0)", x.ofSign(2, 0), -1);
        C.due("half(0, 3)", x.half(0, 3), 5);
        C.due("half(8, 3)", x.half(8, 3), 5);
        C.due("ofPaper(0, 0)", x.ofPaper(0, 0), -1);
        C.due("trace()", x.trace(), 1);
        C.due("cell(0, 0, 0)", x.cell(0, 0, 0), 5);
        C.due("paper(0, 1, 2)", x.paper(0, 1, 2), 0);
        C.due("washed", x.ofPaper(0, 4), 0);
        C.due("drowned", x.ofPaper(0, 5), 0);
        C.due("its year", x.ofPaper(0, 2), 0);
    }

    private static void ofSign() {
        NineSmells x = Checks.registered("p123456789;f987654321;s050000000");
        int[][] want = {{0, 1, 2, 3, 4, 5, 6, 7, 8, 9}, {1, 9, 8, 7, 6, 5, 4, 3, 2, 1}, {2, 0, 5, 0, 0, 0, 0, 0, 0, 0}};
        for (int k = 0; k < 3; k++) {
            for (int what = -1; what <= 8; what++) {
                C.due("ofSign(" + k + ", " + what + ")", x.ofSign(k, what), want[k][what + 1]);
            }
        }
        C.due("ofSign(0, -2)", x.ofSign(0, -2), -2);
        C.due("ofSign(0, 9)", x.ofSign(0, 9), -2);
        C.due("ofSign(-1, 9)", x.ofSign(-1, 9), -1);
        C.due("ofSign(3, 0)", x.ofSign(3, 0), -1);
        C.due("ofSign of the least", x.ofSign(Integer.MIN_VALUE, 0), -1);
        C.due("what of the most", x.ofSign(0, Integer.MAX_VALUE), -2);
    }

    private static void half() {
        NineSmells none = new NineSmells();
        C.due("half(-1, 0)", none.half(-1, 0), -1);
        C.due("half(0, 0)", none.half(0, 0), -2);
        C.due("half(0, 10)", none.half(0, 10), -2);
        C.due("half(0, 1)", none.half(0, 1), -3);
        NineSmells x = Checks.registered("p123456789;f987654321");
        for (int smell = 0; smell < 9; smell++) {
            C.due("half to 1", x.half(smell, 1), 5);
            C.due("half to 9", x.half(smell, 9), 1);
        }
        C.due("half(0, 0)", x.half(0, 0), -2);
        C.due("half(0, 10)", x.half(0, 10), -2);
        C.due("half(9, 0)", x.half(9, 0), -1);
        C.due("half(-1, 1)", x.half(-1, 1), -1);
        C.due("half(0, 4)", x.half(0, 4), 9);
        C.due("half(1, 4)", x.half(1, 4), 9);
    }

    private static void bound() {
        NineSmells none = new NineSmells();
        C.due("bound(-1)", none.bound(-1), -2);
        C.due("bound(1000)", none.bound(1000), -2);
        C.due("bound(0)", none.bound(0), -3);
        C.due("many(3)", none.many(3), 0);
        NineSmells x = Checks.registered("p123456789;f987654321");
        C.due("bound(0)", x.bound(0), 40);
        C.due("bound(999)", x.bound(999), 0);
        C.due("bound(1000)", x.bound(1000), -2);
        C.due("bound(-1)", x.bound(-1), -2);
        C.due("many(3)", x.many(3), 999);
        C.due("bound(5)", x.bound(5), 999);
    }

    private static void year() {
        NineSmells none = new NineSmells();
        C.due("year(-1)", none.year(-1), -2);
        C.due("year(100)", none.year(100), -2);
        C.due("year(3)", none.year(3), -3);
        C.due("many(2)", none.many(2), 0);
        NineSmells x = Checks.registered("p123456789;f987654321");
        C.due("year(-1)", x.year(-1), -2);
        C.due("year(0)", x.year(0), 0);
        C.due("year(7)", x.year(7), 0);
        C.due("year(6)", x.year(6), -2);
        C.due("year(7)", x.year(7), 7);
        C.due("year(100)", x.year(100), -2);
        C.due("year(99)", x.year(99), 7);
        C.due("year(98)", x.year(98), -2);
        C.due("many(2)", x.many(2), 99);
    }

    private static void faded() {
        NineSmells x = Checks.registered("p123456789;f987654321;s050000000");
        C.due("PERSON, 0", x.faded(0, 0, 999, 0), 999);
        C.due("PERSON, 4", x.faded(0, 0, 999, 4), 999);
        C.due("PERSON, 5", x.faded(0, 0, 999, 5), 499);
        C.due("PERSON, 9", x.faded(0, 0, 999, 9), 499);
        C.due("PERSON, 10", x.faded(0, 0, 999, 10), 249);
        C.due("PERSON, 45", x.faded(0, 0, 999, 45), 1);
        C.due("PERSON, 50", x.faded(0, 0, 999, 50), 0);
        C.due("FIELD, 9", x.faded(1, 0, 999, 9), 999);
        C.due("FIELD, 10", x.faded(1, 0, 999, 10), 499);
        C.due("FIELD, 19", x.faded(1, 0, 999, 19), 499);
        C.due("FIELD, 20", x.faded(1, 0, 999, 20), 249);
        C.due("FIELD, 99", x.faded(1, 0, 999, 99), 1);
        C.due("SEAL, 99", x.faded(2, 0, 999, 99), 999);
        x.half(3, 1);
        x.half(4, 9);
        for (int years = 31; years <= 99; years++) {
            C.due("PERSON, half 1, " + years, x.faded(0, 3, 999, years), 0);
        }
        C.due("PERSON, half 1, 3", x.faded(0, 3, 999, 3), 124);
        C.due("FIELD, half 1, 3", x.faded(1, 3, 999, 3), 499);
        C.due("FIELD, half 1, 66", x.faded(1, 3, 999, 66), 0);
        C.due("PERSON, half 9, 8", x.faded(0, 4, 999, 8), 999);
        C.due("PERSON, half 9, 9", x.faded(0, 4, 999, 9), 499);
        C.due("FIELD, half 9, 17", x.faded(1, 4, 999, 17), 999);
        C.due("FIELD, half 9, 18", x.faded(1, 4, 999, 18), 499);
        C.due("0", x.faded(0, 0, 0, 99), 0);
        C.due("no sign", x.faded(3, 0, 1000, 0), -1);
        C.due("no sign", x.faded(-1, 0, 0, 0), -1);
        C.due("no smell", x.faded(0, 9, 0, 100), -1);
        C.due("no smell", x.faded(0, -1, 0, 0), -1);
        C.due("v below 0", x.faded(0, 0, -1, 0), -2);
        C.due("v above 999", x.faded(0, 0, 1000, 0), -2);
        C.due("years below 0", x.faded(0, 0, 0, -1), -2);
        C.due("years above 99", x.faded(0, 0, 0, 100), -2);
    }

    private static void many() {
        NineSmells x = Checks.registered("p123456789;f987654321;s050000000");
        x.paper(0, 1, 0);
        x.paper(0, 2, 0);
        x.year(8);
        x.bound(51);
        C.due("many(0)", x.many(0), 3);
        C.due("many(1)", x.many(1), 2);
        C.due("many(2)", x.many(2), 8);
        C.due("many(3)", x.many(3), 51);
        C.due("many(-1)", x.many(-1), -2);
        C.due("many(4)", x.many(4), -2);
    }
}
