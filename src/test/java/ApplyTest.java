/** Promise 10: the edits between two configurations, or their inverse, are applied exactly. */
public final class ApplyTest {
    public static void main(String[] args) {
        bothWays();
        onItself();
        exactRemoval();
        exactAddition();
        exactMove();
        exactSettings();
        throwsInOrder();
        Check.end("ApplyTest");
    }

    /** The version 1 has the keys 1, 2, 3, 4 in the section 0, the key 1 with a value; the candidate 0 is open. */
    private static ConfigDesk deskWithFour() {
        ConfigDesk desk = new ConfigDesk();
        desk.open(0);
        for (int key = 1; key <= 4; key++) {
            desk.add(0, 0, key, key - 1);
        }
        desk.set(0, 0, 1, 0, 10);
        desk.join(0, 0, 2, 0);
        desk.commit(0, 0);
        desk.open(0);
        desk.open(1);
        desk.open(2);
        return desk;
    }

    private static void bothWays() {
        ConfigDesk desk = deskWithFour();
        desk.remove(0, 0, 2);
        desk.remove(0, 0, 3);
        desk.move(0, 0, 4, 0);
        desk.add(0, 0, 7, 1);
        desk.set(0, 0, 7, 1, 70);
        desk.set(0, 0, 1, 0, 11);
        desk.join(0, 0, 1, 2);
        desk.setGroup(0, 2, 0, 5);
        desk.add(0, 2, 9, 0);
        Check.compare("31 21 43 72 14 16 292 920", "the edits", Check.codes(desk, 11, 0));
        Check.is(8, "apply", () -> desk.apply(1, 11, 0, false));
        Check.is(1, "it leads there", () -> desk.same(1, 0) ? 1 : 0);
        Check.noState("apply twice", () -> desk.apply(1, 11, 0, false));
        Check.is(1, "nothing has changed", () -> desk.same(1, 0) ? 1 : 0);
        Check.is(8, "apply the inverse", () -> desk.apply(1, 11, 0, true));
        Check.is(1, "it leads back", () -> desk.same(1, 11) ? 1 : 0);
        Check.noState("apply the inverse twice", () -> desk.apply(1, 11, 0, true));
        Check.is(1, "nothing has changed", () -> desk.same(1, 11) ? 1 : 0);
        Check.is(0, "no edits fit everywhere", () -> desk.apply(1, 10, 10, true));
    }

    private static void onItself() {
        ConfigDesk desk = deskWithFour();
        Check.is(4, "from the candidate itself", () -> desk.apply(0, 0, 10, false));
        Check.is(1, "it is empty", () -> desk.same(0, 10) ? 1 : 0);
        desk.load(0, 1);
        Check.is(4, "to the candidate itself, inverted", () -> desk.apply(0, 10, 0, true));
        Check.is(1, "it is empty", () -> desk.same(0, 10) ? 1 : 0);
        Check.is(4, "to a candidate that is as the first one", () -> desk.apply(0, 10, 11, false));
        Check.is(1, "it is as the version 1", () -> desk.same(0, 11) ? 1 : 0);
        Check.noState("to the candidate itself", () -> desk.apply(0, 10, 0, false));
    }

    private static void exactRemoval() {
        ConfigDesk desk = deskWithFour();
        desk.remove(0, 0, 2);
        desk.add(1, 0, 9, 2);
        Check.is(1, "an entry behind it does not matter", () -> desk.apply(1, 11, 0, false));
        Check.compare("1934", "it is removed", Check.keys(desk, 1, 0));
        desk.load(1, 1);
        desk.move(1, 0, 2, 2);
        Check.noState("it is at another place", () -> desk.apply(1, 11, 0, false));
        desk.load(1, 1);
        desk.set(1, 0, 2, 1, 3);
        Check.noState("it has another value", () -> desk.apply(1, 11, 0, false));
        desk.load(1, 1);
        desk.join(1, 0, 2, 1);
        Check.noState("it has another group", () -> desk.apply(1, 11, 0, false));
        desk.load(1, 1);
        desk.remove(1, 0, 2);
        Check.noState("it is not there", () -> desk.apply(1, 11, 0, false));
        Check.compare("134", "nothing has changed", Check.keys(desk, 1, 0));
    }

    private static void exactAddition() {
        ConfigDesk desk = deskWithFour();
        desk.add(0, 0, 8, 3);
        desk.set(0, 0, 8, 1, 88);
        desk.join(0, 0, 8, 1);
        desk.remove(1, 0, 1);
        Check.is(1, "there are just as many entries as the place tells", () -> desk.apply(1, 11, 0, false));
        Check.compare("2348", "it is added at its place", Check.keys(desk, 1, 0));
        Check.is(892, "it is added with its value and group", () -> desk.own(1, 0, 3));
        Check.noState("the key is there", () -> desk.apply(1, 11, 0, false));
        desk.load(1, 1);
        desk.remove(1, 0, 1);
        desk.remove(1, 0, 2);
        Check.noState("there are too few entries", () -> desk.apply(1, 11, 0, false));
        desk.load(1, 1);
        desk.add(1, 0, 5, 0);
        Check.is(1, "there are five", () -> desk.apply(1, 11, 0, false));
        Check.compare("512834", "it is added at its place", Check.keys(desk, 1, 0));
        desk.load(1, 1);
        desk.add(1, 0, 5, 0);
        desk.add(1, 0, 6, 0);
        Check.noState("there are six", () -> desk.apply(1, 11, 0, false));
        Check.compare("651234", "nothing has changed", Check.keys(desk, 1, 0));
    }

    private static void exactMove() {
        ConfigDesk desk = deskWithFour();
        desk.move(0, 0, 4, 1);
        Check.compare("43", "one move", Check.codes(desk, 11, 0));
        desk.add(1, 0, 9, 4);
        desk.set(1, 0, 4, 0, 4);
        Check.is(1, "what it has does not matter", () -> desk.apply(1, 11, 0, false));
        Check.compare("14239", "it is moved", Check.keys(desk, 1, 0));
        Check.is(1, "it is moved back", () -> desk.apply(1, 11, 0, true));
        Check.compare("12349", "it is moved back", Check.keys(desk, 1, 0));
        desk.move(1, 0, 4, 4);
        Check.noState("it is at another place", () -> desk.apply(1, 11, 0, false));
        desk.remove(1, 0, 4);
        Check.noState("it is not there", () -> desk.apply(1, 11, 0, false));
        desk.load(1, 0);
        desk.add(1, 0, 9, 0);
        desk.add(1, 0, 4, 1);
        Check.noState("the second place is not there, backwards", () -> desk.apply(1, 11, 0, true));
        Check.compare("94", "nothing has changed", Check.keys(desk, 1, 0));
        desk.add(1, 0, 8, 2);
        Check.noState("the second place is just not there, backwards", () -> desk.apply(1, 11, 0, true));
        desk.add(1, 0, 7, 3);
        Check.is(1, "the second place is just there, backwards", () -> desk.apply(1, 11, 0, true));
        Check.compare("9874", "it is moved", Check.keys(desk, 1, 0));
    }

    private static void exactSettings() {
        ConfigDesk desk = deskWithFour();
        desk.set(0, 0, 1, 0, 20);
        desk.move(1, 0, 1, 3);
        Check.is(1, "the place does not matter", () -> desk.apply(1, 11, 0, false));
        Check.is(210000, "it is set", () -> desk.own(1, 0, 3));
        Check.noState("another value before", () -> desk.apply(1, 11, 0, false));
        Check.is(1, "it is set back", () -> desk.apply(1, 11, 0, true));
        Check.is(110000, "it is set back", () -> desk.own(1, 0, 3));
        desk.remove(1, 0, 1);
        Check.noState("the entry is not there", () -> desk.apply(1, 11, 0, false));
        desk.load(0, 1);
        desk.load(1, 1);
        desk.join(0, 0, 2, 2);
        desk.join(1, 0, 2, -1);
        Check.noState("another group before", () -> desk.apply(1, 11, 0, false));
        desk.join(1, 0, 2, 0);
        Check.is(1, "the group before", () -> desk.apply(1, 11, 0, false));
        desk.load(0, 1);
        desk.load(1, 1);
        desk.setGroup(0, 1, 1, 5);
        desk.setGroup(1, 1, 1, 6);
        Check.noState("another value of the group before", () -> desk.apply(1, 11, 0, false));
        desk.setGroup(1, 1, 1, -1);
        Check.is(1, "the value of the group before", () -> desk.apply(1, 11, 0, false));
        Check.is(1, "it is set", () -> desk.same(0, 1) ? 1 : 0);
    }

    private static void throwsInOrder() {
        ConfigDesk desk = new ConfigDesk();
        desk.open(1);
        for (int which : new int[] {-1, 2, 3, 9, 11, Integer.MIN_VALUE, Integer.MAX_VALUE}) {
            Check.noIndex("apply from " + which, () -> desk.apply(0, which, 10, false));
            Check.noIndex("apply to " + which, () -> desk.apply(0, 10, which, false));
            Check.noIndex("apply from " + which + " to an open one", () -> desk.apply(1, which, 10, true));
        }
        for (int candidate : new int[] {-1, 3, 10, Integer.MIN_VALUE, Integer.MAX_VALUE}) {
            Check.noIndex("apply to the candidate " + candidate, () -> desk.apply(candidate, 10, 10, false));
        }
        Check.noState("apply to a closed one", () -> desk.apply(0, 10, 10, false));
        Check.is(0, "apply nothing", () -> desk.apply(1, 10, 10, false));
    }
}
