import java.util.function.LongSupplier;

/** Compares answers with the ones that are due, counts them, and ends a test with the exit code it needs. */
final class Check {
    private static int right = 0;
    private static int wrong = 0;

    private Check() {
    }

    static void is(long due, String what, LongSupplier call) {
        String got;
        try {
            got = Long.toString(call.getAsLong());
        } catch (RuntimeException e) {
            got = e.getClass().getSimpleName();
        }
        compare(Long.toString(due), what, got);
    }

    static void fails(Class<? extends RuntimeException> due, String what, LongSupplier call) {
        String got;
        try {
            got = Long.toString(call.getAsLong());
        } catch (RuntimeException e) {
            got = e.getClass().getSimpleName();
        }
        compare(due.getSimpleName(), what, got);
    }

    static void noIndex(String what, LongSupplier call) {
        fails(IndexOutOfBoundsException.class, what, call);
    }

    static void noArgument(String what, LongSupplier call) {
        fails(IllegalArgumentException.class, what, call);
    }

    static void noState(String what, LongSupplier call) {
        fails(IllegalStateException.class, what, call);
    }

    static void compare(String due, String what, String got) {
        if (due.equals(got)) {
            right++;
        } else {
            wrong++;
            System.out.println(what + " answered " + got + ", due is " + due);
        }
    }

    /** The keys of a section in their order, as digits. */
    static String keys(ConfigDesk desk, int which, int section) {
        StringBuilder keys = new StringBuilder();
        int size = desk.size(which, section);
        for (int i = 0; i < size; i++) {
            keys.append(desk.keyAt(which, section, i));
        }
        return keys.toString();
    }

    /** The codes of the edits from a configuration to another one. */
    static String codes(ConfigDesk desk, int from, int to) {
        StringBuilder codes = new StringBuilder();
        int count = desk.edits(from, to);
        for (int i = 0; i < count; i++) {
            codes.append(i == 0 ? "" : " ").append(desk.editAt(from, to, i));
        }
        return codes.toString();
    }

    static void end(String test) {
        System.out.println(test + ": " + right + " answers as due, " + wrong + " not");
        if (wrong != 0 || right == 0) {
            System.exit(1);
        }
    }
}
