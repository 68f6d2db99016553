import java.lang.reflect.InvocationTargetException;
import java.lang.reflect.Method;
import java.util.Arrays;
import java.util.List;
import java.util.Random;

/**
 * Runs of 512 made-up calls, the same ones each time: the program and PlainDesk must answer alike. Whatever a call
 * that throws should have left alone is seen by the calls behind it.
 */
public final class RandomRunsTest {
    private static final int RUNS = 3000;
    private static final int CALLS = 512;
    private static final String[] CALL_NAMES = {"open", "add", "remove", "move", "set", "join", "setGroup", "load",
        "apply", "rule", "faults", "commit", "confirm", "advance", "running", "waiting", "size", "keyAt", "shown",
        "own", "same", "edits", "editAt"};

    /** Of each call, how often it is made beside the others, and how many arguments it has. */
    private static final int[] OFTEN = {2, 80, 12, 30, 40, 25, 12, 2, 25, 6, 15, 14, 4, 8, 4, 8, 12, 25, 25, 30, 30, 20,
        40};
    private static final int[] ARGUMENTS = {1, 4, 3, 4, 5, 4, 4, 2, 4, 4, 1, 2, 0, 1, 0, 0, 2, 3, 4, 3, 2, 2, 3};

    private static final Method[] PLAIN_CALLS = callsOf(PlainDesk.class);
    private static final Method[] DESK_CALLS = callsOf(ConfigDesk.class);
    private static final int[] answered = new int[CALL_NAMES.length];
    private static final int[] thrown = new int[CALL_NAMES.length];

    private final Random random;
    private final int strangeOneIn;
    private final int highestValue;
    private final int slowness;

    private RandomRunsTest(int run) {
        random = new Random(run);
        strangeOneIn = run % 3 == 0 ? 12 : 200;
        highestValue = run % 2 == 0 ? 3 : 99;
        slowness = run % 4;
    }

    public static void main(String[] args) throws IllegalAccessException {
        int wrong = 0;
        for (int run = 0; run < RUNS && wrong < 10; run++) {
            wrong += new RandomRunsTest(run).goesWrong(run) ? 1 : 0;
        }
        for (int i = 0; i < CALL_NAMES.length; i++) {
            boolean canThrow = ARGUMENTS[i] > 0 || CALL_NAMES[i].equals("confirm");
            boolean isMet = answered[i] > RUNS / 2 && (!canThrow || thrown[i] > RUNS / 10);
            Check.compare("true", CALL_NAMES[i] + " answered " + answered[i] + " times, threw " + thrown[i] + " times, "
                + "which is enough", Boolean.toString(isMet));
        }
        Check.compare("0", "runs that went wrong", Integer.toString(wrong));
        Check.end("RandomRunsTest");
    }

    private boolean goesWrong(int run) throws IllegalAccessException {
        ConfigDesk desk = new ConfigDesk();
        PlainDesk plain = new PlainDesk();
        StringBuilder calls = new StringBuilder();
        for (int i = 0; i < CALLS; i++) {
            int call = anyCall(plain);
            int[] a = argumentsOf(call, plain);
            String due = answerOf(plain, PLAIN_CALLS[call], a);
            String got = answerOf(desk, DESK_CALLS[call], a);
            calls.append(CALL_NAMES[call]).append(Arrays.toString(a)).append(" -> ").append(due).append('\n');
            if (!due.equals(got)) {
                System.out.println("run " + run + ":\n" + calls + "the last one answered " + got);
                return true;
            }
            if (due.endsWith("Exception")) {
                thrown[call]++;
            } else {
                answered[call]++;
            }
        }
        return false;
    }

    private int anyCall(PlainDesk plain) {
        if (isClosed(candidate(plain), plain) || random.nextInt(15) == 0 && isClosed(random.nextInt(3), plain)) {
            return 0;
        }
        int rest = random.nextInt(Arrays.stream(OFTEN).sum());
        int call = 0;
        while (rest >= OFTEN[call]) {
            rest -= OFTEN[call];
            call++;
        }
        boolean isRare = CALL_NAMES[call].equals("rule") && random.nextInt(1 + 8 * slowness) > 0;
        return isRare ? 1 : call;
    }

    private static boolean isClosed(int candidate, PlainDesk plain) {
        return plain.candidates[candidate] == null;
    }

    /** Arguments that mostly fit what is there. */
    private int[] argumentsOf(int call, PlainDesk plain) {
        int[] a = new int[ARGUMENTS[call]];
        for (int i = 0; i < a.length; i++) {
            a[i] = argument(call, i, a, plain);
            if (random.nextInt(strangeOneIn) == 0) {
                a[i] = strange();
            }
        }
        return a;
    }

    private int strange() {
        int[] numbers = {-2, -1, 0, 1, 2, 3, 6, 9, 10, 11, 40, 99, 100, 101, Integer.MIN_VALUE, Integer.MAX_VALUE};
        return numbers[random.nextInt(numbers.length)];
    }

    private int argument(int call, int i, int[] a, PlainDesk plain) {
        switch (CALL_NAMES[call]) {
            case "open":
                return closedCandidate(plain);
            case "commit":
                return i == 0 ? candidate(plain) : minutes();
            case "add": case "remove": case "move": case "set": case "join":
                return editArgument(CALL_NAMES[call], i, a, plain);
            case "setGroup":
                return new int[] {candidate(plain), random.nextInt(3), random.nextInt(2), value()}[i];
            case "load":
                return i == 0 ? candidate(plain) : random.nextInt(plain.versions.size());
            case "apply":
                return new int[] {candidate(plain), configuration(plain), configuration(plain), random.nextInt(2)}[i];
            case "rule":
                return new int[] {random.nextInt(4), random.nextInt(3), random.nextInt(2),
                    random.nextBoolean() ? random.nextInt(4) : value() + 1}[i];
            case "advance":
                return 1 + random.nextInt(slowness == 0 ? 100 : 5);
            case "same": case "edits": case "faults":
                return configuration(plain);
            case "editAt":
                return i < 2 ? configuration(plain) : random.nextInt(12);
            default:
                return new int[] {configuration(plain), random.nextInt(3), random.nextInt(6), random.nextInt(2)}[i];
        }
    }

    private int editArgument(String name, int i, int[] a, PlainDesk plain) {
        if (i == 0) {
            return candidate(plain);
        }
        if (i == 1) {
            return random.nextInt(3);
        }
        if (i == 2) {
            return key(name.equals("add"), a[0], a[1], plain);
        }
        if (name.equals("set")) {
            return i == 3 ? random.nextInt(2) : value();
        }
        return name.equals("join") ? random.nextInt(4) - 1 : random.nextInt(1 + entries(a[0], a[1], plain).size());
    }

    private int key(boolean isNew, int candidate, int section, PlainDesk plain) {
        List<PlainDesk.Item> entries = entries(candidate, section, plain);
        if (isNew || entries.isEmpty() || random.nextInt(10) == 0) {
            return random.nextInt(highestValue == 3 ? 7 : 10);
        }
        return entries.get(random.nextInt(entries.size())).key();
    }

    private static List<PlainDesk.Item> entries(int candidate, int section, PlainDesk plain) {
        boolean isThere = candidate >= 0 && candidate < 3 && section >= 0 && section < 3 && !isClosed(candidate, plain);
        return isThere ? plain.candidates[candidate].sections().get(section) : List.of();
    }

    private int closedCandidate(PlainDesk plain) {
        int candidate = random.nextInt(3);
        for (int i = 0; i < 3 && !isClosed(candidate, plain); i++) {
            candidate = (candidate + 1) % 3;
        }
        return candidate;
    }

    private int candidate(PlainDesk plain) {
        int candidate = random.nextInt(3);
        for (int i = 0; i < 3 && isClosed(candidate, plain); i++) {
            candidate = (candidate + 1) % 3;
        }
        return candidate;
    }

    private int configuration(PlainDesk plain) {
        if (random.nextInt(2) == 0) {
            return candidate(plain);
        }
        boolean isAny = random.nextInt(3) == 0;
        int back = isAny ? random.nextInt(plain.versions.size()) : Math.min(plain.running(), random.nextInt(2));
        return 10 + plain.running() - back;
    }

    private int value() {
        return random.nextInt(highestValue + 2) - 1;
    }

    private int minutes() {
        return random.nextInt(3) == 0 ? random.nextInt(slowness == 0 ? 101 : 6) : 0;
    }

    private static Method[] callsOf(Class<?> type) {
        Method[] calls = new Method[CALL_NAMES.length];
        for (Method method : type.getDeclaredMethods()) {
            int call = Arrays.asList(CALL_NAMES).indexOf(method.getName());
            if (call >= 0) {
                calls[call] = method;
            }
        }
        return calls;
    }

    private static String answerOf(Object desk, Method call, int[] a) throws IllegalAccessException {
        Object[] arguments = new Object[a.length];
        for (int i = 0; i < a.length; i++) {
            boolean isFlag = call.getParameterTypes()[i] == boolean.class;
            arguments[i] = isFlag ? (Object) (a[i] == 1) : (Object) a[i];
        }
        try {
            return String.valueOf(call.invoke(desk, arguments));
        } catch (InvocationTargetException e) {
            return e.getCause().getClass().getSimpleName();
        }
    }
}
