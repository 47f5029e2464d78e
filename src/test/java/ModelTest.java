import java.lang.reflect.InvocationTargetException;
import java.lang.reflect.Method;
import java.util.ArrayList;
import java.util.HashMap;
import java.util.List;
import java.util.Map;
import java.util.Random;

/** Runs of calls, drawn by fixed seeds, whose answers are those of PlainModel. */
public final class ModelTest {
    /** Nothing is promised of what an object answers behind so many CALLS. */
    private static final int RUNS = 900, CALLS = 512;

    /** Each call by its name and what each of its numbers is: a range that is mostly kept to. */
    private static final String[] CALL_LINES = {
        "register sheet lane i n", "ofSign x what8", "half smell 1..9", "bound 0..999", "bound 0..120",
        "year 0..12", "year 0..99", "faded x smell 0..999 0..99", "paper x x 0..9", "paper x x 0..3", "ofPaper p 0..5",
        "smells p smell 0..99", "wash p smell", "flood 1..9", "far p x x", "fits p 0..2", "fits p 0..2", "proved",
        "again p", "apart x x", "twins -1..9", "forged x x sheet lane i n", "forged x x sheet lane i n",
        "near x x 0..10 smell", "steals x x", "fresh 0..4", "odds x 0..3 sheet lane i 0..1",
        "odds x 0..3 sheet lane i 0..1", "who 0..3 sheet lane i", "sheet sheet lane 0..90", "lose sheet",
        "put sheet i any", "cell sheet i lane", "copy sheet i sheet i n", "tell x", "stop x", "as x 0..2", "trace",
        "fault", "many 0..3"
    };

    private final Random random;
    private final NineSmells tested = new NineSmells();
    private final PlainModel model = new PlainModel();
    private final List<String> log = new ArrayList<>();
    private int calls, sheetMeant;
    private boolean failed;

    private static final Map<String, Method> TESTED = methods(NineSmells.class);
    private static final Map<String, Method> MODEL = methods(PlainModel.class);

    private ModelTest(long seed) {
        random = new Random(seed);
    }

    public static void main(String[] args) {
        int wrong = 0;
        int calls = 0;
        for (int run = 0; run < RUNS && wrong < 3; run++) {
            ModelTest test = new ModelTest(run);
            test.go();
            wrong += test.failed ? 1 : 0;
            calls += test.calls;
        }
        System.out.println("ModelTest: " + calls + " calls, " + wrong + " runs not as the model");
        if (wrong != 0 || calls == 0) {
            System.exit(1);
        }
    }

    private static Map<String, Method> methods(Class<?> of) {
        Map<String, Method> byName = new HashMap<>();
        for (Method m : of.getDeclaredMethods()) {
            if (!java.lang.reflect.Modifier.isPrivate(m.getModifiers()) && !m.isSynthetic()) {
                byName.put(m.getName(), m);
            }
        }
        return byName;
    }

    private void go() {
        while (calls < CALLS && !failed) {
            int dice = random.nextInt(100);
            if (dice < 2 || calls < CALLS / 2 && model.many(0) == 0 && dice < 12) {
                text();
            } else if (dice < 6) {
                row();
            } else {
                anyCall();
            }
            look();
        }
    }

    private void call(String name, int... numbers) {
        if (failed || calls >= CALLS) {
            return;
        }
        calls++;
        Object[] asked = new Object[numbers.length];
        StringBuilder line = new StringBuilder(name);
        for (int k = 0; k < numbers.length; k++) {
            asked[k] = numbers[k];
            line.append(' ').append(numbers[k]);
        }
        Object got = answer(TESTED.get(name), tested, asked);
        Object want = answer(MODEL.get(name), model, asked);
        log.add(line + " = " + got);
        failed = !want.equals(got);
        if (failed) {
            System.out.println("answered " + got + ", the model " + want + ": " + log);
        }
    }

    private void look() {
        call("fault");
        call("trace");
    }

    private static Object answer(Method method, Object of, Object[] asked) {
        try {
            return ((Number) method.invoke(of, asked)).longValue();
        } catch (InvocationTargetException e) {
            return "an exception: " + e.getCause();
        } catch (IllegalAccessException e) {
            return "no access: " + e;
        }
    }

    private void anyCall() {
        String[] line = CALL_LINES[random.nextInt(CALL_LINES.length)].split(" ");
        int[] numbers = new int[line.length - 1];
        for (int k = 0; k < numbers.length; k++) {
            numbers[k] = number(line[0], line[k + 1]);
        }
        call(line[0], numbers);
    }

    private int number(String call, String of) {
        switch (of) {
            case "x":
                return within(0, Math.max(0, model.many(0) - 1));
            case "p":
                return within(0, Math.max(0, model.many(1) - 1));
            case "smell":
                return within(0, 8);
            case "what8":
                return within(-1, 8);
            case "sheet":
                sheetMeant = within(0, 3);
                return sheetMeant;
            case "lane":
                boolean keeps = sheetMeant >= 0 && sheetMeant < 4 && model.cells(sheetMeant) >= 0;
                return keeps && !call.equals("sheet") && random.nextInt(12) > 0 ? model.lane(sheetMeant) : within(0, 2);
            case "i":
                return random.nextInt(3) > 0 ? within(0, 2) : within(0, 90);
            case "n":
                return random.nextInt(20) == 0 ? Integer.MIN_VALUE / 4 : within(0, 12);
            case "any":
                return random.nextInt(3) == 0 ? random.nextInt() : random.nextInt(130) - 10;
            default:
                int dots = of.indexOf("..");
                return within(Integer.parseInt(of.substring(0, dots)), Integer.parseInt(of.substring(dots + 2)));
        }
    }

    /** A number of a range, now and then one that is just outside. */
    private int within(int least, int most) {
        int dice = random.nextInt(40);
        if (dice == 0) {
            return least - 1;
        }
        return dice == 1 ? most + 1 : least + random.nextInt(most - least + 1);
    }

    private void write(int k, int lane, int[] numbers) {
        call("sheet", k, lane, numbers.length);
        for (int i = 0; i < numbers.length; i++) {
            if (numbers[i] != 0) {
                call("put", k, i, numbers[i]);
            }
        }
    }

    private void text() {
        int ahead = random.nextInt(3);
        int signs = 2 + random.nextInt(random.nextInt(3) == 0 ? 7 : 3);
        int digits = 1 + random.nextInt(10);
        StringBuilder text = new StringBuilder();
        for (int x = 0; x < signs; x++) {
            text.append(x == 0 ? "" : ";").append("pfs".charAt(random.nextInt(3)));
            for (int smell = 0; smell < 9; smell++) {
                text.append(random.nextInt(3) == 0 ? random.nextInt(digits) : 0);
            }
        }
        if (random.nextInt(4) == 0) {
            text.setCharAt(random.nextInt(text.length()), "pfs;0129x:/".charAt(random.nextInt(11)));
        }
        int[] numbers = new int[Math.min(90, ahead + text.length())];
        for (int i = ahead; i < numbers.length; i++) {
            numbers[i] = text.charAt(i - ahead);
        }
        int k = random.nextInt(4);
        int lane = random.nextInt(3);
        write(k, lane, numbers);
        call("register", k, lane, ahead, numbers.length - ahead - (random.nextInt(6) == 0 ? random.nextInt(12) : 0));
    }

    /** Numbers of what is left at a door, near to one of the SIGNS, or STOPPERS. */
    private void row() {
        int k = random.nextInt(4);
        int[] numbers = new int[9 + random.nextInt(12)];
        int sign = random.nextInt(8);
        boolean door = random.nextBoolean();
        for (int i = 0; i < numbers.length; i++) {
            int strength = Math.max(0, model.ofSign(sign, i % 9));
            int stopper = i % 2 == 0 ? random.nextInt(9) : 1 + random.nextInt(9);
            numbers[i] = door ? 8 * strength >> random.nextInt(3) : stopper;
        }
        write(k, random.nextInt(3), numbers);
        if (door) {
            call("who", within(0, 3), k, model.lane(k), within(0, 1));
            call("odds", sign, within(0, 3), k, model.lane(k), within(0, 1), within(0, 1));
        } else {
            int last = Math.max(0, model.many(0) - 1);
            call("forged", within(0, last), within(0, last), k, model.lane(k), 0, within(0, numbers.length / 2));
        }
    }
}
