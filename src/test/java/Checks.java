/** Counts the calls of a test whose answer is not the one that is due, and fills sheets for it. */
final class Checks {
    static final int NULL = -11, CAST = -12, INDEX = -13, SIZE = -14;

    private final String test;
    private int asked, wrong;

    Checks(String test) {
        this.test = test;
    }

    void due(String call, long got, long want) {
        asked++;
        if (got != want) {
            wrong++;
            System.out.println(test + ": " + call + " answered " + got + ", due is " + want);
        }
    }

    /** A call that names FAULTS and answers by an int: its answer, and what fault() tells behind it. */
    void dueFault(NineSmells x, String call, long got, long want) {
        due(call, got, want);
        due("fault() after " + call, x.fault(), want <= -11 && want >= -14 ? -10 - want : 0);
    }

    /** A call that answers LOST, and what fault() tells behind it. */
    void dueLost(NineSmells x, String call, long got, int fault) {
        due(call, got, NineSmells.LOST);
        due("fault() after " + call, x.fault(), fault);
    }

    /** Ends the program: with exit code 1 if an answer was wrong. */
    void end() {
        System.out.println(test + ": " + asked + " answers, " + wrong + " not as due");
        if (wrong != 0 || asked == 0) {
            System.exit(1);
        }
    }

    /** A sheet becomes the codes of a text, with so many empty cells ahead of them. */
    static void write(NineSmells x, int k, int lane, int ahead, String text) {
        x.sheet(k, lane, ahead + text.length());
        for (int i = 0; i < text.length(); i++) {
            x.put(k, ahead + i, text.charAt(i));
        }
    }

    /** A sheet becomes a row of these numbers. */
    static void row(NineSmells x, int k, int lane, int... numbers) {
        x.sheet(k, lane, numbers.length);
        for (int i = 0; i < numbers.length; i++) {
            x.put(k, i, numbers[i]);
        }
    }

    /** What register answers to a text. It stands in sheet 3 then. */
    static int enter(NineSmells x, String text) {
        write(x, 3, 2, 0, text);
        return x.register(3, 2, 0, text.length());
    }

    /** A new object with a REGISTER. */
    static NineSmells registered(String text) {
        NineSmells x = new NineSmells();
        enter(x, text);
        return x;
    }
}
