import java.util.function.LongSupplier;

/** Asks a desk for all that it tells, and then calls what lets the rest be seen; the desk is used up by that. */
final class Probe {
    /** Far enough from 512, behind which answers are free, for the calls that made the desk. */
    private static final int MOST_CALLS = 400;

    private final ConfigDesk desk;
    private final StringBuilder told = new StringBuilder();
    private int calls = 0;

    private Probe(ConfigDesk desk) {
        this.desk = desk;
    }

    static String of(ConfigDesk desk) {
        Probe probe = new Probe(desk);
        probe.tellAll();
        if (probe.calls > MOST_CALLS) {
            throw new AssertionError("a probe of " + probe.calls + " calls");
        }
        return probe.told.toString();
    }

    private void tellAll() {
        tell("running ", () -> desk.running());
        long left = tell("waiting ", () -> desk.waiting());
        int running = desk.running();
        int[] numbers = {0, 1, 2, 10, 10 + running, 11 + running};
        for (int which : numbers) {
            tellConfiguration(which);
            for (int other : numbers) {
                tell("edits ", () -> desk.edits(which, other));
            }
        }
        for (int candidate = 0; candidate < 3; candidate++) {
            tellGroups(candidate);
        }
        if (left > 0) {
            tellTime((int) left);
        }
        for (int candidate = 0; candidate < 3; candidate++) {
            tellCommit(candidate);
        }
        tellRules();
    }

    private long tell(String what, LongSupplier call) {
        calls++;
        try {
            long answer = call.getAsLong();
            told.append(what).append(answer).append('\n');
            return answer;
        } catch (RuntimeException e) {
            told.append(what).append(e.getClass().getSimpleName()).append('\n');
            return -1;
        }
    }

    private void tellConfiguration(int which) {
        tell("configuration " + which + ", faults ", () -> desk.faults(which));
        for (int i = 0; i < 3; i++) {
            int section = i;
            long size = tell("section ", () -> desk.size(which, section));
            for (int j = 0; j < size; j++) {
                int place = j;
                tell("key ", () -> desk.keyAt(which, section, place));
                tell("own ", () -> desk.own(which, section, place));
            }
        }
    }

    private void tellGroups(int candidate) {
        for (int i = 0; i < 6; i++) {
            int group = i / 2;
            int field = i % 2;
            int before = (int) tell("group ", () -> desk.setGroup(candidate, group, field, 98));
            tell("and back ", () -> desk.setGroup(candidate, group, field, before));
        }
    }

    /** Shows when the commit that waits is undone, and to what. */
    private void tellTime(int left) {
        if (left > 1) {
            tell("advance ", () -> desk.advance(left - 1));
        }
        tell("waiting ", () -> desk.waiting());
        tell("advance ", () -> desk.advance(1));
        tellConfiguration(10 + desk.running());
    }

    /** Shows the base of a candidate. */
    private void tellCommit(int candidate) {
        if (tell("commit ", () -> desk.commit(candidate, 0)) > 0) {
            tellConfiguration(10 + desk.running());
        }
    }

    private void tellRules() {
        for (int i = 0; i < 9; i++) {
            tell("rule ", () -> desk.rule(0, 0, 0, 0));
        }
        tell("faults ", () -> desk.faults(10));
    }
}
