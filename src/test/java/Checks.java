import java.lang.reflect.InvocationTargetException;
import java.lang.reflect.Method;
import java.util.Arrays;
import java.util.Comparator;

/** Runs the tests of a class, counts the answers that are not due, and fills objects for them. */
final class Checks {
    static final int NULL = -11, CAST = -12, INDEX = -13, SIZE = -14;
    static final int LEAST = Integer.MIN_VALUE, MOST = Integer.MAX_VALUE;

    /** Far longer than any test takes, so that a call that doesn't end fails and doesn't hang. */
    private static final long PATIENCE_MILLIS = 300_000;
    private static final int MOST_TOLD_OF_A_TEST = 5;

    private final String testClass;
    private String test = "";
    private int tests, asked, wrong, wrongInTest;

    Checks(String testClass) {
        this.testClass = testClass;
    }

    /** Runs all tests of a class: its static methods without numbers, but for main. Ends the program. */
    void run(Class<?> of) {
        watch();
        Method[] methods = of.getDeclaredMethods();
        Arrays.sort(methods, Comparator.comparing(Method::getName));
        for (Method m : methods) {
            if (isTest(m)) {
                tests++;
                test = m.getName();
                wrongInTest = 0;
                call(m);
            }
        }
        System.out.println(testClass + ": " + tests + " tests, " + asked + " answers, " + wrong + " not as due");
        System.exit(wrong != 0 || asked == 0 ? 1 : 0);
    }

    static boolean isTest(Method m) {
        return m.getParameterCount() == 0 && m.getReturnType() == void.class && !m.isSynthetic();
    }

    private void call(Method test) {
        try {
            test.invoke(null);
        } catch (InvocationTargetException e) {
            fail("threw " + e.getCause());
        } catch (IllegalAccessException e) {
            fail("can't be called: " + e);
        }
    }

    private void watch() {
        Thread watch = new Thread(() -> {
            try {
                Thread.sleep(PATIENCE_MILLIS);
            } catch (InterruptedException e) {
                return;
            }
            System.out.println(testClass + "." + test + " doesn't end");
            Runtime.getRuntime().halt(1);
        });
        watch.setDaemon(true);
        watch.start();
    }

    private void fail(String what) {
        wrong++;
        wrongInTest++;
        if (wrongInTest <= MOST_TOLD_OF_A_TEST) {
            System.out.println(testClass + "." + test + ": " + what);
        }
    }

    void due(String call, long got, long want) {
        asked++;
        if (got != want) {
            fail(call + " answered " + got + ", due is " + want);
        }
    }

    void same(String what, String got, String want) {
        asked++;
        if (!got.equals(want)) {
            fail(what + " is " + got + ", due is " + want);
        }
    }

    /** A call that names FAULTS and answers by an int: its answer, and what fault() tells behind it. */
    void dueFault(NineSmells x, String call, long got, long want) {
        due(call, got, want);
        due("fault() after " + call, x.fault(), want <= NULL && want >= SIZE ? -10 - want : 0);
    }

    /** A call that answers LOST, and what fault() tells behind it. */
    void dueLost(NineSmells x, String call, long got, int fault) {
        due(call, got, NineSmells.LOST);
        due("fault() after " + call, x.fault(), fault);
    }

    /** A sheet becomes the codes of a text, with so many empty cells ahead of them. */
    static void write(NineSmells x, int k, int lane, int ahead, String text) {
        x.sheet(k, lane, ahead + text.length());
        for (int i = 0; i < text.length(); i++) {
            x.put(k, ahead + i, text.charAt(i));
        }
    }

    /** A sheet becomes a row of these numbers. */
    static void row(NineSmells x, int k, int lane, int... numbers) {
        x.sheet(k, lane, numbers.length);
        for (int i = 0; i < numbers.length; i++) {
            x.put(k, i, numbers[i]);
        }
    }

    /** What register answers to a text. It stands in sheet 3 then, as ints. */
    static int enter(NineSmells x, String text) {
        write(x, 3, 2, 0, text);
        return x.register(3, 2, 0, text.length());
    }

    /** A new object with a REGISTER. Its sheets 0 to 2 have nothing. */
    static NineSmells registered(String text) {
        NineSmells x = new NineSmells();
        enter(x, text);
        return x;
    }

    /** A new object with a REGISTER, whose latest FAULT is INDEX. Sheet 0 is a row of nine bytes, all 1. */
    static NineSmells faulted(String text) {
        NineSmells x = registered(text);
        row(x, 0, 0, 1, 1, 1, 1, 1, 1, 1, 1, 1);
        x.put(0, -1, 0);
        return x;
    }

    /** All that an object tells of itself but for its latest FAULT. It spoils the HALVES. */
    static String state(NineSmells x) {
        StringBuilder all = new StringBuilder("many");
        for (int what = 0; what <= 3; what++) {
            all.append(' ').append(x.many(what));
        }
        all.append(" trace ").append(x.trace());
        for (int sign = x.many(0) - 1; sign >= 0; sign--) {
            all.append(" sign ").append(sign);
            for (int what = -1; what <= 8; what++) {
                all.append(' ').append(x.ofSign(sign, what));
            }
        }
        for (int p = x.many(1) - 1; p >= 0; p--) {
            all.append(" paper ").append(p);
            for (int what = 0; what <= 5; what++) {
                all.append(' ').append(x.ofPaper(p, what));
            }
        }
        for (int k = 0; k <= 3; k++) {
            for (int lane = 0; lane <= 2; lane++) {
                all.append(" sheet ").append(k).append(" lane ").append(lane).append(cells(x, k, lane));
            }
        }
        all.append(" halves");
        for (int smell = 0; smell <= 8; smell++) {
            all.append(' ').append(x.half(smell, 1));
        }
        return all.toString();
    }

    /** The cells of a sheet, taken as a row of a LANE, to the first that can't be told; and the FAULT of that. */
    static String cells(NineSmells x, int k, int lane) {
        StringBuilder all = new StringBuilder();
        int i = 0;
        long v = x.cell(k, i, lane);
        while (v != NineSmells.LOST) {
            all.append(' ').append(v);
            i++;
            v = x.cell(k, i, lane);
        }
        return all.append(" fault ").append(x.fault()).toString();
    }
}
