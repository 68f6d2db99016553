import java.util.function.Supplier;

/** Checks at the edges of what a call takes: both ends of a range, just beside them, and refused calls. */
final class Edge {
    static final Class<? extends RuntimeException> INDEX = IndexOutOfBoundsException.class;
    static final Class<? extends RuntimeException> ARGUMENT = IllegalArgumentException.class;
    static final Class<? extends RuntimeException> STATE = IllegalStateException.class;

    interface Call {
        long on(ConfigDesk desk);
    }

    interface CallWith {
        long on(ConfigDesk desk, int argument);
    }

    private Edge() {
    }

    static void answers(long due, String what, Supplier<ConfigDesk> desks, Call call) {
        ConfigDesk desk = desks.get();
        Check.is(due, what, () -> call.on(desk));
    }

    /** The call is refused, and again; it leaves the desk like one that was never asked. */
    static void refused(Class<? extends RuntimeException> due, String what, Supplier<ConfigDesk> desks, Call call) {
        ConfigDesk desk = desks.get();
        Check.fails(due, what, () -> call.on(desk));
        Check.fails(due, what + ", again", () -> call.on(desk));
        Check.compare(Probe.of(desks.get()), what + ", behind that the desk", Probe.of(desk));
    }

    /** An argument is taken at both ends of its range, and refused just below and just above it, and far away. */
    static void range(Class<? extends RuntimeException> due, String what, Supplier<ConfigDesk> desks, int low,
            long dueAtLow, int high, long dueAtHigh, CallWith call) {
        answers(dueAtLow, what + " " + low, desks, desk -> call.on(desk, low));
        answers(dueAtHigh, what + " " + high, desks, desk -> call.on(desk, high));
        for (int argument : new int[] {low - 1, high + 1, Integer.MIN_VALUE, Integer.MAX_VALUE}) {
            refused(due, what + " " + argument, desks, desk -> call.on(desk, argument));
        }
    }

    /** As range; and a version's number, though it names a configuration, is no candidate. */
    static void candidates(String what, Supplier<ConfigDesk> desks, long dueAtLow, long dueAtHigh, CallWith call) {
        range(INDEX, what, desks, 0, dueAtLow, 2, dueAtHigh, call);
        refused(INDEX, what + " 10", desks, desk -> call.on(desk, 10));
        refused(INDEX, what + " 11", desks, desk -> call.on(desk, 11));
    }

    /**
     * A configuration is taken by the numbers 0 and 2, and by 10 and 10 + the running version. It is refused by
     * what is just beside these, and by 1, a candidate that is to be closed on these desks.
     */
    static void configurations(String what, Supplier<ConfigDesk> desks, long[] dues, CallWith call) {
        int last = 10 + desks.get().running();
        int[] numbers = {0, 2, 10, last};
        for (int i = 0; i < numbers.length; i++) {
            int number = numbers[i];
            answers(dues[i], what + " " + number, desks, desk -> call.on(desk, number));
        }
        for (int number : new int[] {-1, 1, 3, 9, last + 1, Integer.MIN_VALUE, Integer.MAX_VALUE}) {
            refused(INDEX, what + " " + number, desks, desk -> call.on(desk, number));
        }
    }
}
