/** Promises 1 to 7 and 35, and the terms of part 1: a new object, a REGISTER, its HALVES, BOUND and YEAR. */
public final class RegisterTest {
    private static final Checks C = new Checks("RegisterTest");
    private static final String TWO = "p123456789;f987654321";
    private static final String THREE = TWO + ";s050000000";
    private static final String EIGHT = "p123456789;f987654321;s000000000;p111111111;"
        + "p222222222;f333333333;s444444444;s999999999";
    private static final int[] NO_SHEET = {-1, 4, Checks.LEAST, Checks.MOST};
    private static final int[] NO_LANE = {-1, 3, Checks.LEAST, Checks.MOST};
    private static final int[] NO_SIGN = {-1, 3, Checks.LEAST, Checks.MOST};
    private static final int[] NO_SMELL = {-1, 9, Checks.LEAST, Checks.MOST};
    /** 999, and what is left of it, halved once, twice .. */
    private static final int[] HALVED = {999, 499, 249, 124, 62, 31, 15, 7, 3, 1, 0};

    public static void main(String[] args) {
        C.run(RegisterTest.class);
    }

    // ---- a new object

    /** Promise 1: "No REGISTER (no SIGNS)". */
    static void newObjectHasNoSigns() {
        NineSmells x = new NineSmells();
        C.due("many(0)", x.many(0), 0);
        C.due("ofSign(0, 0)", x.ofSign(0, 0), -1);
        C.due("faded(0, 0, 0, 0)", x.faded(0, 0, 0, 0), -1);
        C.due("paper(0, 1, 0)", x.paper(0, 1, 0), -1);
        C.due("apart(0, 0)", x.apart(0, 0), -1);
        C.due("twins(-1)", x.twins(-1), 0);
        C.due("twins(0)", x.twins(0), -9);
        C.due("near(0, 0, 0, 0)", x.near(0, 0, 0, 0), -1);
        C.due("steals(0, 1)", x.steals(0, 1), -1);
        C.due("tell(0)", x.tell(0), -1);
        C.due("stop(0)", x.stop(0), -1);
        C.due("trace()", x.trace(), 0);
        Checks.row(x, 0, 0, 0, 0, 0, 0, 0, 0, 0, 0, 0);
        C.dueFault(x, "forged(0, 1, ..)", x.forged(0, 1, 0, 0, 0, 1), -1);
        C.dueLost(x, "odds(0, ..)", x.odds(0, 0, 0, 0, 0, 0), 0);
        C.dueFault(x, "who(..)", x.who(0, 0, 0, 0), -9);
        C.dueFault(x, "as(0, 0)", x.as(0, 0), -1);
    }

    /** Promise 1: "No REGISTER (no SIGNS)", so that there are no PAPERS. */
    static void newObjectHasNoPapers() {
        NineSmells x = new NineSmells();
        C.due("many(1)", x.many(1), 0);
        C.due("ofPaper(0, 0)", x.ofPaper(0, 0), -1);
        C.due("smells(0, 0, 0)", x.smells(0, 0, 0), -1);
        C.due("wash(0, 0)", x.wash(0, 0), -1);
        C.due("flood(1)", x.flood(1), 0);
        C.due("far(0, 0, 1)", x.far(0, 0, 1), -1);
        C.due("fits(0, 0)", x.fits(0, 0), -1);
        C.due("proved()", x.proved(), 0);
        C.due("again(0)", x.again(0), -1);
    }

    /** Promise 1: "No REGISTER (no SIGNS)", even while another object has one. */
    static void newObjectHasNothingOfAnother() {
        NineSmells other = Checks.registered(TWO);
        other.paper(0, 1, 0);
        other.stop(0);
        other.put(3, 99, 0);
        NineSmells x = new NineSmells();
        C.due("many(0)", x.many(0), 0);
        C.due("many(1)", x.many(1), 0);
        C.due("many(3)", x.many(3), 0);
        C.due("trace()", x.trace(), 0);
        C.due("fault()", x.fault(), 0);
        C.due("lose(3)", x.lose(3), 0);
        Checks.enter(x, THREE);
        C.due("many(0) of the other one", other.many(0), 2);
        C.due("many(1) of the other one", other.many(1), 1);
    }

    /** Promise 1: "SHEETS have nothing". */
    static void newObjectsSheetsHaveNothing() {
        NineSmells x = new NineSmells();
        for (int k = 0; k <= 3; k++) {
            C.dueFault(x, "put in " + k, x.put(k, 0, 0), Checks.NULL);
            for (int lane = 0; lane <= 2; lane++) {
                C.dueLost(x, "cell of " + k + ", lane " + lane, x.cell(k, 0, lane), 1);
            }
            C.due("lose(" + k + ")", x.lose(k), 0);
        }
    }

    // ---- TEXTS

    /** Term REGISTER: "A REGISTER by a TEXT: 2 to 8 SIGNS": one is too few. */
    static void oneSignIsTooFew() {
        NineSmells x = new NineSmells();
        C.due("one SIGN", Checks.enter(x, "p123456789"), -110);
        C.due("one SIGN and ;", Checks.enter(x, "p123456789;"), -111);
        C.due("no SIGN", Checks.enter(x, ""), -100);
        C.due("many(0)", x.many(0), 0);
    }

    /** Term REGISTER: "2 to 8 SIGNS": two are enough. */
    static void twoSignsAreEnough() {
        NineSmells x = new NineSmells();
        C.due("two SIGNS", Checks.enter(x, TWO), 2);
        C.due("many(0)", x.many(0), 2);
    }

    /** Term REGISTER: "2 to 8 SIGNS": eight are taken. */
    static void eightSignsAreTaken() {
        NineSmells x = new NineSmells();
        C.due("eight SIGNS", Checks.enter(x, EIGHT), 8);
        C.due("many(0)", x.many(0), 8);
        C.due("ofSign(7, 8)", x.ofSign(7, 8), 9);
    }

    /** Term REGISTER: "numbered from 0 on". */
    static void signsAreNumberedFrom0() {
        NineSmells x = Checks.registered("p000000000;p100000000;p200000000;p300000000;"
            + "p400000000;p500000000;p600000000;p700000000");
        C.due("ofSign(-1, 0)", x.ofSign(-1, 0), -1);
        for (int sign = 0; sign <= 7; sign++) {
            C.due("ofSign(" + sign + ", 0)", x.ofSign(sign, 0), sign);
        }
        C.due("ofSign(8, 0)", x.ofSign(8, 0), -1);
    }

    /** Term REGISTER: "with ; between": not ahead, not behind, no two of them, not none. */
    static void oneMarkBetweenSigns() {
        NineSmells x = new NineSmells();
        C.due("none", Checks.enter(x, "p123456789f987654321"), -110);
        C.due("two", Checks.enter(x, "p123456789;;f987654321"), -111);
        C.due("another one", Checks.enter(x, "p123456789,f987654321"), -110);
        C.due("one ahead", Checks.enter(x, ";" + TWO), -100);
        C.due("one behind", Checks.enter(x, TWO + ";"), -122);
        C.due("one", Checks.enter(x, TWO), 2);
    }

    /** Term REGISTER: "a letter, then nine digits": no more, no fewer of them. */
    static void aLetterThenNineDigits() {
        NineSmells x = new NineSmells();
        C.due("no letter", Checks.enter(x, "123456789;f987654321"), -100);
        C.due("two letters", Checks.enter(x, "pp123456789;f98765432"), -101);
        C.due("no digits", Checks.enter(x, "p;f987654321"), -101);
        C.due("eight digits", Checks.enter(x, "p12345678;f987654321"), -109);
        C.due("eight digits of the last one", Checks.enter(x, "p123456789;f98765432"), -120);
        C.due("ten digits", Checks.enter(x, "p1234567890;f987654321"), -110);
        C.due("ten digits of the last one", Checks.enter(x, TWO + "0"), -121);
        C.due("a letter behind", Checks.enter(x, "123456789p;987654321f"), -100);
    }

    /** Term REGISTER: "STRENGTH of SMELLS 0 .. 8". */
    static void digitsAreStrengths() {
        NineSmells x = Checks.registered("p123456789;f908070605");
        int[][] want = {{1, 2, 3, 4, 5, 6, 7, 8, 9}, {9, 0, 8, 0, 7, 0, 6, 0, 5}};
        for (int sign = 0; sign <= 1; sign++) {
            for (int smell = 0; smell <= 8; smell++) {
                C.due("ofSign(" + sign + ", " + smell + ")", x.ofSign(sign, smell), want[sign][smell]);
            }
        }
    }

    /**
     * Term FIRST FAULT: "FIRST FAULT: the place (from 0 on) of the first code with which no TEXT goes on": any of a
     * TEXT.
     */
    static void firstFaultIsItsPlace() {
        NineSmells x = new NineSmells();
        Checks.write(x, 1, 1, 2, EIGHT);
        for (int place = 0; place < EIGHT.length(); place++) {
            x.put(1, 2 + place, 'x');
            C.dueFault(x, "an x at " + place, x.register(1, 1, 2, EIGHT.length()), -100 - place);
            x.put(1, 2 + place, EIGHT.charAt(place));
        }
    }

    /** Term FIRST FAULT: "the first code with which no TEXT goes on", if there are others behind it. */
    static void firstFaultOfSeveral() {
        NineSmells x = new NineSmells();
        C.due("all wrong", Checks.enter(x, "xxxxxxxxxxxxxxxxxxxxx"), -100);
        C.due("two wrong", Checks.enter(x, "p1234x678x;f987654321"), -105);
        C.due("a wrong digit, and too short", Checks.enter(x, "p12345x"), -106);
        C.due("a wrong letter, and too short", Checks.enter(x, "p123456789;x"), -111);
        C.due("a wrong digit, and nine SIGNS", Checks.enter(x, EIGHT.substring(0, 86) + "x;p1"), -186);
    }

    /** Term FIRST FAULT: "(the ; ahead of a ninth SIGN)". */
    static void firstFaultOfNineSigns() {
        NineSmells x = new NineSmells();
        C.due("; behind eight", Checks.enter(x, EIGHT + ";"), -187);
        C.due("a ninth begun", Checks.enter(x, EIGHT + ";p1"), -187);
        C.due("; behind seven", Checks.enter(x, EIGHT.substring(0, 77)), -177);
        C.due("many(0)", x.many(0), 0);
    }

    /** Term FIRST FAULT: "how many codes there are, if it just ends too soon": any beginning of a TEXT. */
    static void firstFaultOfBeginnings() {
        NineSmells x = new NineSmells();
        Checks.write(x, 0, 0, 0, EIGHT);
        for (int n = 0; n <= EIGHT.length(); n++) {
            boolean whole = n > 10 && n % 11 == 10;
            C.due("register of " + n, x.register(0, 0, 0, n), whole ? (n + 1) / 11 : -100 - n);
        }
    }

    /** The codes of 0 to 127 with which a TEXT of two is taken, if they stand at a place of it. */
    private static String codesTakenAt(int place) {
        NineSmells x = Checks.registered(TWO);
        StringBuilder taken = new StringBuilder();
        for (int code = 0; code <= 127; code++) {
            x.put(3, place, code);
            int answer = x.register(3, 2, 0, TWO.length());
            if (answer == 2) {
                taken.append((char) code);
            } else {
                C.due("register with " + code + " at " + place, answer, -100 - place);
            }
        }
        return taken.toString();
    }

    /** Term REGISTER: "(Codes: p 112, f 102, s 115, ; 59, digits 48 .. 57.)": no others. */
    static void codesOfTexts() {
        String letters = "" + (char) 102 + (char) 112 + (char) 115;
        C.same("first letter", codesTakenAt(0), letters);
        C.same("first digit", codesTakenAt(1), "0123456789");
        C.same("ninth digit", codesTakenAt(9), "0123456789");
        C.same("between", codesTakenAt(10), "" + (char) 59);
        C.same("second letter", codesTakenAt(11), letters);
        C.same("last digit", codesTakenAt(20), "0123456789");
    }

    /** Term REGISTER: "(Codes: p 112, f 102, s 115, ; 59, digits 48 .. 57.)": none that is alike when cut to a byte. */
    static void codesOfTextsAreNotCut() {
        int[] more = {256, -256, 65536, 0x40000000, Checks.LEAST};
        NineSmells x = Checks.registered(TWO);
        for (int place : new int[] {0, 1, 10, 11, 20}) {
            for (int by : more) {
                x.put(3, place, TWO.charAt(place) + by);
                C.due(by + " more at " + place, x.register(3, 2, 0, TWO.length()), -100 - place);
            }
            x.put(3, place, TWO.charAt(place));
        }
        Checks.write(x, 1, 1, 0, TWO);
        x.put(1, 10, 59 + 256);
        C.due("shorts", x.register(1, 1, 0, TWO.length()), -110);
        Checks.write(x, 0, 0, 0, TWO);
        x.put(0, 10, -59);
        C.due("a byte below 0", x.register(0, 0, 0, TWO.length()), -110);
    }

    /** Term REGISTER: "Kinds: 0 PERSON (p); 1 FIELD (f), a PERSON; 2 SEAL (s), a FIELD.". */
    static void kinds() {
        NineSmells x = Checks.registered("s100000000;p200000000;f300000000");
        int[] kind = {2, 0, 1};
        for (int sign = 0; sign <= 2; sign++) {
            C.due("kind of " + sign, x.ofSign(sign, -1), kind[sign]);
            for (int as = 0; as <= 2; as++) {
                C.due("as(" + sign + ", " + as + ")", x.as(sign, as), as <= kind[sign] ? 1 : Checks.CAST);
            }
        }
    }

    // ---- all anew

    /** An object with a REGISTER of three in which nothing is as at first. */
    private static NineSmells used() {
        NineSmells x = Checks.registered(THREE);
        x.bound(77);
        for (int smell = 0; smell <= 8; smell++) {
            x.half(smell, 9);
        }
        for (int p = 0; p < 8; p++) {
            x.paper(2, 1, 4);
        }
        x.wash(0, 3);
        x.flood(5);
        x.year(6);
        x.stop(0);
        Checks.row(x, 0, 0, 5, -6);
        Checks.row(x, 1, 1, 700);
        return x;
    }

    /** Term TEXT: "A TEXT that is taken makes all anew": the SIGNS that were are gone. */
    static void newTextMakesSignsAnew() {
        NineSmells x = used();
        C.due("two SIGNS", Checks.enter(x, "s111111111;s000000001"), 2);
        C.due("many(0)", x.many(0), 2);
        C.due("kind of 0", x.ofSign(0, -1), 2);
        C.due("strength of 0", x.ofSign(0, 8), 1);
        C.due("strength of 1", x.ofSign(1, 0), 0);
        C.due("ofSign(2, -1)", x.ofSign(2, -1), -1);
        C.due("eight SIGNS", Checks.enter(x, EIGHT), 8);
        C.due("ofSign(7, -1)", x.ofSign(7, -1), 2);
    }

    /** Term TEXT: "A TEXT that is taken makes all anew", the same TEXT too. */
    static void sameTextMakesAllAnew() {
        NineSmells x = used();
        C.due("the same TEXT", x.register(3, 2, 0, THREE.length()), 3);
        C.due("many(1)", x.many(1), 0);
        C.due("many(2)", x.many(2), 0);
        C.due("many(3)", x.many(3), 40);
        C.due("half(8, 1)", x.half(8, 1), 5);
    }

    /** Term TEXT: "but for SHEETS and TRACE". */
    static void newTextLeavesSheetsAndTrace() {
        NineSmells x = used();
        C.due("two SIGNS", Checks.enter(x, TWO), 2);
        C.due("trace()", x.trace(), 4);
        C.same("sheet 0", Checks.cells(x, 0, 0), " 5 -6 fault 3");
        C.same("sheet 1", Checks.cells(x, 1, 1), " 700 fault 3");
        C.same("sheet 2", Checks.cells(x, 2, 0), " fault 1");
        C.due("the TEXT's first code", x.cell(3, 0, 2), 112);
        C.due("the TEXT's last code", x.cell(3, 20, 2), 49);
    }

    /** Term TEXT: "no PAPERS". */
    static void newTextLeavesNoPapers() {
        NineSmells x = used();
        C.due("two SIGNS", Checks.enter(x, TWO), 2);
        C.due("many(1)", x.many(1), 0);
        C.due("ofPaper(0, 0)", x.ofPaper(0, 0), -1);
        C.due("ofPaper(7, 0)", x.ofPaper(7, 0), -1);
        C.due("flood(1)", x.flood(1), 0);
        C.due("proved()", x.proved(), 0);
        C.due("paper(0, 1, 2)", x.paper(0, 1, 2), 0);
        int[] want = {0, 1, 0, 2, 0, 0};
        for (int what = 0; what <= 5; what++) {
            C.due("ofPaper(0, " + what + ")", x.ofPaper(0, what), want[what]);
        }
    }

    /** Term TEXT: "YEAR 0". */
    static void newTextBeginsInYear0() {
        NineSmells x = used();
        C.due("two SIGNS", Checks.enter(x, TWO), 2);
        C.due("many(2)", x.many(2), 0);
        C.due("year(0)", x.year(0), 0);
        C.due("year(3)", x.year(3), 0);
    }

    /** Term TEXT: "HALVES 5". */
    static void newTextHasHalves5() {
        NineSmells x = used();
        C.due("two SIGNS", Checks.enter(x, TWO), 2);
        for (int smell = 0; smell <= 8; smell++) {
            C.due("4 years of " + smell, x.faded(0, smell, 8, 4), 8);
            C.due("5 years of " + smell, x.faded(0, smell, 8, 5), 4);
            C.due("half(" + smell + ", 2)", x.half(smell, 2), 5);
        }
    }

    /** Term TEXT: "BOUND 40". */
    static void newTextHasBound40() {
        NineSmells x = used();
        C.due("two SIGNS", Checks.enter(x, TWO), 2);
        C.due("many(3)", x.many(3), 40);
        C.due("bound(0)", x.bound(0), 40);
    }

    // ---- fading

    /** Term HALF: "HALF of a SMELL (1 .. 9): behind how many years it is half as strong.". */
    static void halfAsStrongBehindHalf() {
        NineSmells x = Checks.registered(THREE);
        for (int half = 1; half <= 9; half++) {
            x.half(4, half);
            C.due("a year ahead of " + half, x.faded(0, 4, 100, half - 1), 100);
            C.due("behind " + half, x.faded(0, 4, 100, half), 50);
            C.due("a year ahead of twice " + half, x.faded(0, 4, 100, 2 * half - 1), 50);
            C.due("behind twice " + half, x.faded(0, 4, 100, 2 * half), 25);
            C.due("another SMELL's 4 years", x.faded(0, 3, 100, 4), 100);
            C.due("another SMELL's 5 years", x.faded(0, 5, 100, 5), 50);
        }
    }

    private static void dueFaded(int sign, int half, int yearsOfOne) {
        NineSmells x = Checks.registered(THREE);
        x.half(0, half);
        for (int years = 0; years <= 99; years++) {
            int times = Math.min(10, years / yearsOfOne);
            C.due("999 of " + sign + " by " + years, x.faded(sign, 0, 999, years), HALVED[times]);
        }
    }

    /** Term FADED: "halved (cut) once for each HALF of the SMELL that is over". */
    static void personIsHalvedForEachHalf() {
        dueFaded(0, 5, 5);
        dueFaded(0, 9, 9);
    }

    /** Term FADED: "halved (cut) once for each HALF of the SMELL that is over": 99 times at the most. */
    static void personIsHalvedManyTimes() {
        dueFaded(0, 1, 1);
    }

    /** Term FADED: "of a FIELD for each two of them". */
    static void fieldIsHalvedForEachTwo() {
        dueFaded(1, 5, 10);
        dueFaded(1, 9, 18);
        dueFaded(1, 1, 2);
    }

    /** Term FADED: "of a SEAL never". */
    static void sealNeverFades() {
        dueFaded(2, 1, 100);
        dueFaded(2, 9, 100);
    }

    /** Term FADED: "FADED: a number by how many years (or hours)": by none it stays. */
    static void fadedByNoYears() {
        NineSmells x = Checks.registered(THREE);
        x.half(0, 1);
        for (int sign = 0; sign <= 2; sign++) {
            C.due("faded of " + sign, x.faded(sign, 0, 7, 0), 7);
        }
    }

    // ---- register

    /** Promise 2: "A REGISTER by a TEXT of n cells of a SHEET from i on": not by those ahead or behind. */
    static void registerInTheMidst() {
        NineSmells x = new NineSmells();
        Checks.write(x, 2, 1, 5, "f000000001;s000000020;p");
        C.dueFault(x, "one ahead", x.register(2, 1, 4, 22), -100);
        C.dueFault(x, "one behind", x.register(2, 1, 5, 22), -122);
        C.dueFault(x, "one too few", x.register(2, 1, 5, 20), -120);
        C.dueFault(x, "two", x.register(2, 1, 5, 21), 2);
        C.due("kind of 0", x.ofSign(0, -1), 1);
        C.due("strength of 0", x.ofSign(0, 8), 1);
        C.due("kind of 1", x.ofSign(1, -1), 2);
        C.due("strength of 1", x.ofSign(1, 7), 2);
    }

    /** Promise 2: "taken as a row of a LANE", each of them, of each SHEET. */
    static void registerOfEachLane() {
        for (int lane = 0; lane <= 2; lane++) {
            for (int k = 0; k <= 3; k++) {
                NineSmells x = new NineSmells();
                Checks.write(x, k, lane, 0, EIGHT);
                C.dueFault(x, "sheet " + k + ", lane " + lane, x.register(k, lane, 0, EIGHT.length()), 8);
                C.due("last strength", x.ofSign(7, 8), 9);
            }
        }
    }

    /** Promise 2: "how many SIGNS", from two to eight. */
    static void registerTellsHowMany() {
        NineSmells x = new NineSmells();
        Checks.write(x, 0, 0, 0, EIGHT);
        for (int signs = 2; signs <= 8; signs++) {
            C.dueFault(x, "register of " + signs, x.register(0, 0, 0, 11 * signs - 1), signs);
            C.due("many(0)", x.many(0), signs);
        }
    }

    /** Promise 2: "-100 less the FIRST FAULT.", which is no FAULT of the machine. */
    static void registerTellsFirstFault() {
        NineSmells x = new NineSmells();
        C.due("x", Checks.enter(x, "x" + TWO), -100);
        C.due("fault()", x.fault(), 0);
        C.due("at 11", Checks.enter(x, "p123456789;x"), -111);
        C.due("fault()", x.fault(), 0);
        C.due("at 12", Checks.enter(x, "p123456789;fx"), -112);
        C.due("at 13", Checks.enter(x, "p123456789;f9x"), -113);
        C.due("fault()", x.fault(), 0);
    }

    /** Promise 2: "UNKNOWN", ahead of all others. */
    static void registerOfNoSheet() {
        NineSmells x = Checks.faulted(TWO);
        for (int k : NO_SHEET) {
            C.dueFault(x, "sheet " + k, x.register(k, 0, 0, 21), -1);
            C.dueFault(x, "sheet " + k + ", no lane", x.register(k, 3, -1, -1), -1);
        }
    }

    /** Promise 2: "OUTSIDE: lane", ahead of all FAULTS. */
    static void registerOfNoLane() {
        NineSmells x = Checks.faulted(TWO);
        for (int lane : NO_LANE) {
            C.dueFault(x, "lane " + lane, x.register(3, lane, 0, 21), -2);
            C.dueFault(x, "lane " + lane + ", SIZE, INDEX", x.register(3, lane, -1, -1), -2);
            C.dueFault(x, "lane " + lane + ", nothing", x.register(1, lane, 0, 21), -2);
        }
    }

    /** Promise 2: "CAST", ahead of SIZE, INDEX and FIRST FAULT. */
    static void registerOfAnotherLane() {
        NineSmells x = new NineSmells();
        for (int has = 0; has <= 2; has++) {
            Checks.write(x, has, has, 0, TWO);
            for (int lane = 0; lane <= 2; lane++) {
                int want = lane == has ? 2 : Checks.CAST;
                C.dueFault(x, "lane " + has + " as " + lane, x.register(has, lane, 0, 21), want);
            }
        }
        C.dueFault(x, "SIZE, INDEX too", x.register(0, 1, -1, -1), Checks.CAST);
        C.dueFault(x, "INDEX too", x.register(0, 1, 0, 22), Checks.CAST);
        C.dueFault(x, "FIRST FAULT too", x.register(0, 1, 1, 1), Checks.CAST);
    }

    /** Promise 2: "(nothing is no CAST)", whatever it had. */
    static void registerOfNothingIsNoCast() {
        NineSmells x = new NineSmells();
        for (int had = 0; had <= 2; had++) {
            Checks.write(x, had, had, 0, TWO);
            x.lose(had);
            for (int lane = 0; lane <= 2; lane++) {
                C.dueFault(x, "had " + had + ", as " + lane, x.register(had, lane, 0, 21), Checks.NULL);
                C.dueFault(x, "never had, as " + lane, x.register(3, lane, 0, 21), Checks.NULL);
            }
        }
    }

    /** Promise 2: "NULL", ahead of SIZE and INDEX; a row of no cells is none. */
    static void registerOfNothing() {
        NineSmells x = new NineSmells();
        C.dueFault(x, "nothing", x.register(1, 2, 0, 21), Checks.NULL);
        C.dueFault(x, "nothing, no cells of it", x.register(1, 2, 0, 0), Checks.NULL);
        C.dueFault(x, "nothing, SIZE", x.register(1, 2, 0, -1), Checks.NULL);
        C.dueFault(x, "nothing, INDEX", x.register(1, 2, -1, 1), Checks.NULL);
        x.sheet(1, 2, 0);
        C.dueFault(x, "a row of no cells", x.register(1, 2, 0, 0), -100);
    }

    /** Promise 2: "SIZE: n below 0", ahead of INDEX. */
    static void registerOfSizeBelow0() {
        NineSmells x = Checks.registered(TWO);
        for (int n : new int[] {-1, -21, Checks.LEAST}) {
            C.dueFault(x, "n " + n, x.register(3, 2, 0, n), Checks.SIZE);
            C.dueFault(x, "i 21, n " + n, x.register(3, 2, 21, n), Checks.SIZE);
            C.dueFault(x, "i -1, n " + n, x.register(3, 2, -1, n), Checks.SIZE);
            C.dueFault(x, "i 22, n " + n, x.register(3, 2, 22, n), Checks.SIZE);
        }
        C.dueFault(x, "n 0", x.register(3, 2, 0, 0), -100);
    }

    /** Promise 2: "INDEX", ahead of FIRST FAULT. */
    static void registerBeyond() {
        NineSmells x = Checks.registered(TWO);
        C.dueFault(x, "i -1", x.register(3, 2, -1, 21), Checks.INDEX);
        C.dueFault(x, "n 22", x.register(3, 2, 0, 22), Checks.INDEX);
        C.dueFault(x, "i 1", x.register(3, 2, 1, 21), Checks.INDEX);
        C.dueFault(x, "i 1, n 20, a FIRST FAULT", x.register(3, 2, 1, 20), -100);
        C.dueFault(x, "i 20, n 1", x.register(3, 2, 20, 1), -100);
        C.dueFault(x, "i 21, n 1", x.register(3, 2, 21, 1), Checks.INDEX);
        x.sheet(0, 0, 0);
        C.dueFault(x, "one of no cells", x.register(0, 0, 0, 1), Checks.INDEX);
    }

    /** Promise 2: "INDEX", if none is taken. */
    static void registerOfNoneBeyond() {
        NineSmells x = Checks.registered(TWO);
        C.dueFault(x, "i -1", x.register(3, 2, -1, 0), Checks.INDEX);
        C.dueFault(x, "i 0", x.register(3, 2, 0, 0), -100);
        C.dueFault(x, "i 21", x.register(3, 2, 21, 0), -100);
        C.dueFault(x, "i 22", x.register(3, 2, 22, 0), Checks.INDEX);
        C.dueFault(x, "i least", x.register(3, 2, Checks.LEAST, 0), Checks.INDEX);
        C.dueFault(x, "i most", x.register(3, 2, Checks.MOST, 0), Checks.INDEX);
    }

    /** Promise 2: "INDEX", where i and n together wrap around. */
    static void registerWrapsNoIndex() {
        NineSmells x = Checks.registered(TWO);
        int most = Checks.MOST;
        C.dueFault(x, "n most", x.register(3, 2, 0, most), Checks.INDEX);
        C.dueFault(x, "i 1, n most", x.register(3, 2, 1, most), Checks.INDEX);
        C.dueFault(x, "i most, n 1", x.register(3, 2, most, 1), Checks.INDEX);
        C.dueFault(x, "i, n most", x.register(3, 2, most, most), Checks.INDEX);
        C.dueFault(x, "i least, n most", x.register(3, 2, Checks.LEAST, most), Checks.INDEX);
    }

    /** Promise 2: "-100 less it": such a call changes nothing. */
    static void textThatIsNotTakenChangesNothing() {
        String[] texts = {"", "s000000000", "s000000000;s00000000x", "s000000000;s000000000;", "x" + TWO};
        int[] want = {-100, -110, -120, -122, -100};
        for (int k = 0; k < texts.length; k++) {
            NineSmells x = used();
            NineSmells y = used();
            Checks.write(x, 2, 0, 0, texts[k]);
            Checks.write(y, 2, 0, 0, texts[k]);
            C.dueFault(x, "register", x.register(2, 0, 0, texts[k].length()), want[k]);
            C.same("state", Checks.state(x), Checks.state(y));
        }
    }

    // ---- ofSign, half, bound, year, faded, many

    /** Promise 3: "Of a SIGN: its kind (what -1), STRENGTH of a SMELL (what 0 .. 8).". */
    static void ofSign() {
        NineSmells x = Checks.registered(THREE);
        int[][] want = {{0, 1, 2, 3, 4, 5, 6, 7, 8, 9}, {1, 9, 8, 7, 6, 5, 4, 3, 2, 1}, {2, 0, 5, 0, 0, 0, 0, 0, 0, 0}};
        for (int k = 0; k < 3; k++) {
            for (int what = -1; what <= 8; what++) {
                C.due("ofSign(" + k + ", " + what + ")", x.ofSign(k, what), want[k][what + 1]);
            }
        }
    }

    /** Promise 3: "UNKNOWN", ahead of OUTSIDE. */
    static void ofNoSign() {
        NineSmells x = Checks.registered(THREE);
        for (int sign : NO_SIGN) {
            C.due("ofSign(" + sign + ", 0)", x.ofSign(sign, 0), -1);
            C.due("ofSign(" + sign + ", 9)", x.ofSign(sign, 9), -1);
        }
    }

    /** Promise 3: "OUTSIDE". */
    static void ofSignOutside() {
        NineSmells x = Checks.registered(THREE);
        for (int what : new int[] {-2, 9, Checks.LEAST, Checks.MOST}) {
            C.due("ofSign(0, " + what + ")", x.ofSign(0, what), -2);
        }
    }

    /** Promise 4: "HALF of a SMELL becomes v: what it was.", of each by itself, from 1 to 9. */
    static void half() {
        NineSmells x = Checks.registered(THREE);
        for (int smell = 0; smell <= 8; smell++) {
            C.due("half(" + smell + ", 1)", x.half(smell, 1), 5);
            C.due("half(" + smell + ", 9)", x.half(smell, 9), 1);
            C.due("half(" + smell + ", 9)", x.half(smell, 9), 9);
        }
        C.due("half(0, 4)", x.half(0, 4), 9);
        C.due("half(8, 3)", x.half(8, 3), 9);
        C.due("half(0, 5)", x.half(0, 5), 4);
    }

    /** Promise 4: "UNKNOWN", ahead of OUTSIDE and STATE. */
    static void halfOfNoSmell() {
        NineSmells x = Checks.registered(THREE);
        NineSmells none = new NineSmells();
        for (int smell : NO_SMELL) {
            C.due("half(" + smell + ", 1)", x.half(smell, 1), -1);
            C.due("half(" + smell + ", 0)", x.half(smell, 0), -1);
            C.due("half(" + smell + ", 1) of none", none.half(smell, 1), -1);
            C.due("half(" + smell + ", 10) of none", none.half(smell, 10), -1);
        }
    }

    /** Promise 4: "OUTSIDE", ahead of STATE. */
    static void halfOutside() {
        NineSmells x = Checks.registered(THREE);
        NineSmells none = new NineSmells();
        for (int v : new int[] {0, 10, -1, Checks.LEAST, Checks.MOST}) {
            C.due("half(0, " + v + ")", x.half(0, v), -2);
            C.due("half(0, " + v + ") of none", none.half(0, v), -2);
        }
        C.due("as it was", x.half(0, 1), 5);
    }

    /** Promise 4: "STATE: there is no REGISTER". */
    static void halfWithoutRegister() {
        NineSmells x = new NineSmells();
        C.due("half(0, 1)", x.half(0, 1), -3);
        C.due("half(8, 9)", x.half(8, 9), -3);
        C.due("a TEXT that is not taken", Checks.enter(x, "p"), -101);
        C.due("half(0, 1)", x.half(0, 1), -3);
        C.due("a TEXT", Checks.enter(x, TWO), 2);
        C.due("half(0, 1)", x.half(0, 1), 5);
    }

    /** Promise 5: "BOUND becomes v (0 .. 999): what it was.". */
    static void bound() {
        NineSmells x = Checks.registered(THREE);
        C.due("bound(0)", x.bound(0), 40);
        C.due("bound(999)", x.bound(999), 0);
        C.due("bound(999)", x.bound(999), 999);
        C.due("bound(5)", x.bound(5), 999);
        C.due("many(3)", x.many(3), 5);
    }

    /** Promise 5: "OUTSIDE", ahead of STATE. */
    static void boundOutside() {
        NineSmells x = Checks.registered(THREE);
        NineSmells none = new NineSmells();
        for (int v : new int[] {-1, 1000, Checks.LEAST, Checks.MOST}) {
            C.due("bound(" + v + ")", x.bound(v), -2);
            C.due("bound(" + v + ") of none", none.bound(v), -2);
        }
        C.due("many(3)", x.many(3), 40);
    }

    /** Promise 5: "STATE: there is no REGISTER". */
    static void boundWithoutRegister() {
        NineSmells x = new NineSmells();
        C.due("bound(0)", x.bound(0), -3);
        C.due("bound(999)", x.bound(999), -3);
        C.due("many(3)", x.many(3), 0);
        C.due("a TEXT that is not taken", Checks.enter(x, "p"), -101);
        C.due("bound(7)", x.bound(7), -3);
        C.due("a TEXT", Checks.enter(x, TWO), 2);
        C.due("bound(7)", x.bound(7), 40);
    }

    /** Promise 6: "YEAR becomes v (no less than it is, to 99): what it was.". */
    static void year() {
        NineSmells x = Checks.registered(THREE);
        C.due("year(0)", x.year(0), 0);
        C.due("year(7)", x.year(7), 0);
        C.due("year(7)", x.year(7), 7);
        C.due("year(99)", x.year(99), 7);
        C.due("year(99)", x.year(99), 99);
        C.due("many(2)", x.many(2), 99);
    }

    /** Promise 6: "OUTSIDE", ahead of STATE: less than it is, or above 99. */
    static void yearOutside() {
        NineSmells x = Checks.registered(THREE);
        NineSmells none = new NineSmells();
        for (int v : new int[] {-1, 100, Checks.LEAST, Checks.MOST}) {
            C.due("year(" + v + ")", x.year(v), -2);
            C.due("year(" + v + ") of none", none.year(v), -2);
        }
        C.due("year(7)", x.year(7), 0);
        C.due("year(6)", x.year(6), -2);
        C.due("year(0)", x.year(0), -2);
        C.due("many(2)", x.many(2), 7);
        C.due("year(99)", x.year(99), 7);
        C.due("year(98)", x.year(98), -2);
        C.due("year(100)", x.year(100), -2);
        C.due("many(2)", x.many(2), 99);
    }

    /** Promise 6: "STATE: there is no REGISTER". */
    static void yearWithoutRegister() {
        NineSmells x = new NineSmells();
        C.due("year(0)", x.year(0), -3);
        C.due("year(99)", x.year(99), -3);
        C.due("many(2)", x.many(2), 0);
        C.due("year(3)", x.year(3), -3);
        C.due("a TEXT", Checks.enter(x, TWO), 2);
        C.due("year(3)", x.year(3), 0);
    }

    /** Promise 7: "A number v (0 .. 999) of a SMELL of a SIGN, FADED by so many years (0 .. 99).". */
    static void faded() {
        NineSmells x = Checks.registered(THREE);
        C.due("PERSON, nothing", x.faded(0, 0, 0, 99), 0);
        C.due("PERSON, 999", x.faded(0, 0, 999, 0), 999);
        C.due("PERSON, 999, 99 years", x.faded(0, 0, 999, 99), 0);
        C.due("FIELD, 999, 99 years", x.faded(1, 8, 999, 99), 1);
        C.due("SEAL, 999, 99 years", x.faded(2, 8, 999, 99), 999);
        x.half(3, 1);
        C.due("PERSON, HALF 1", x.faded(0, 3, 999, 3), 124);
        C.due("FIELD, HALF 1", x.faded(1, 3, 999, 3), 499);
        C.due("not by its own STRENGTH", x.faded(2, 1, 1, 1), 1);
        x.year(50);
        C.due("not by the YEAR that is", x.faded(0, 0, 999, 5), 499);
    }

    /** Promise 7: "UNKNOWN: SIGN, SMELL", ahead of OUTSIDE. */
    static void fadedUnknown() {
        NineSmells x = Checks.registered(THREE);
        for (int sign : NO_SIGN) {
            C.due("faded(" + sign + ", 0, 0, 0)", x.faded(sign, 0, 0, 0), -1);
            C.due("faded(" + sign + ", 0, 1000, 100)", x.faded(sign, 0, 1000, 100), -1);
        }
        for (int smell : NO_SMELL) {
            C.due("faded(0, " + smell + ", 0, 0)", x.faded(0, smell, 0, 0), -1);
            C.due("faded(0, " + smell + ", -1, -1)", x.faded(0, smell, -1, -1), -1);
            C.due("faded of the SEAL, " + smell, x.faded(2, smell, 0, 0), -1);
        }
    }

    /** Promise 7: "OUTSIDE". */
    static void fadedOutside() {
        NineSmells x = Checks.registered(THREE);
        for (int sign = 0; sign <= 2; sign++) {
            for (int v : new int[] {-1, 1000, Checks.LEAST, Checks.MOST}) {
                C.due("v " + v, x.faded(sign, 0, v, 0), -2);
            }
            for (int years : new int[] {-1, 100, Checks.LEAST, Checks.MOST}) {
                C.due("years " + years, x.faded(sign, 0, 0, years), -2);
            }
        }
    }

    /** Promise 35: "How many: 0 SIGNS, 1 PAPERS, 2 YEAR, 3 BOUND". */
    static void many() {
        NineSmells x = Checks.registered(THREE);
        int[] first = {3, 0, 0, 40};
        for (int what = 0; what <= 3; what++) {
            C.due("many(" + what + ") at first", x.many(what), first[what]);
        }
        x.paper(0, 1, 0);
        x.paper(0, 2, 0);
        x.year(8);
        x.bound(51);
        int[] then = {3, 2, 8, 51};
        for (int what = 0; what <= 3; what++) {
            C.due("many(" + what + ")", x.many(what), then[what]);
        }
    }

    /** Promise 35: "(0 without a REGISTER)". */
    static void manyWithoutRegister() {
        NineSmells x = new NineSmells();
        for (int what = 0; what <= 3; what++) {
            C.due("many(" + what + ")", x.many(what), 0);
        }
        C.due("a TEXT that is not taken", Checks.enter(x, "p"), -101);
        for (int what = 0; what <= 3; what++) {
            C.due("many(" + what + ") still", x.many(what), 0);
        }
    }

    /** Promise 35: "OUTSIDE". */
    static void manyOutside() {
        NineSmells x = Checks.registered(THREE);
        NineSmells none = new NineSmells();
        for (int what : new int[] {-1, 4, Checks.LEAST, Checks.MOST}) {
            C.due("many(" + what + ")", x.many(what), -2);
            C.due("many(" + what + ") of none", none.many(what), -2);
        }
    }
}
