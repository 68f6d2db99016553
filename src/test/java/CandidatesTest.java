/** Promises 2 to 9: candidates are opened and edited. */
public final class CandidatesTest {
    private static final int[] NO_CANDIDATES = {-1, 3, 10, Integer.MIN_VALUE, Integer.MAX_VALUE};
    private static final int[] NO_SECTIONS = {-1, 3, Integer.MIN_VALUE, Integer.MAX_VALUE};
    private static final int[] NO_KEYS = {-1, 10, Integer.MIN_VALUE, Integer.MAX_VALUE};
    private static final int[] NO_FIELDS = {-1, 2, Integer.MIN_VALUE, Integer.MAX_VALUE};
    private static final int[] NO_VALUES = {-2, 100, Integer.MIN_VALUE, Integer.MAX_VALUE};

    public static void main(String[] args) {
        promise2();
        promise2OpensAnew();
        promise3();
        promise3ThrowsInOrder();
        promise4();
        promise5();
        promise5ThrowsInOrder();
        promise6();
        promise6ThrowsInOrder();
        promise7();
        promise8();
        promise9();
        Check.end("CandidatesTest");
    }

    /** A desk whose candidate 0 has the keys 4, 7, 2 in its section 1. */
    static ConfigDesk deskWithThree() {
        ConfigDesk desk = new ConfigDesk();
        desk.open(0);
        desk.add(0, 1, 4, 0);
        desk.add(0, 1, 7, 1);
        desk.add(0, 1, 2, 2);
        return desk;
    }

    private static void promise2() {
        ConfigDesk desk = new ConfigDesk();
        for (int candidate : NO_CANDIDATES) {
            Check.noIndex("open(" + candidate + ")", () -> desk.open(candidate));
        }
        for (int candidate = 0; candidate < 3; candidate++) {
            int opened = candidate;
            Check.noIndex("size ahead of open", () -> desk.size(opened, 0));
            Check.is(0, "open", () -> desk.open(opened));
            Check.is(0, "size behind open", () -> desk.size(opened, 0));
        }
        desk.add(2, 0, 5, 0);
        desk.setGroup(2, 1, 0, 8);
        desk.commit(2, 0);
        Check.noIndex("a committed candidate", () -> desk.size(2, 0));
        Check.is(0, "an open candidate keeps its own", () -> desk.size(1, 0));
        Check.is(1, "open gives the running version", () -> desk.open(2));
        Check.is(1, "the configuration is that of the base", () -> desk.same(2, 11) ? 1 : 0);
    }

    private static void promise2OpensAnew() {
        ConfigDesk desk = new ConfigDesk();
        desk.open(0);
        desk.add(0, 2, 3, 0);
        desk.setGroup(0, 2, 1, 50);
        Check.is(0, "open anew", () -> desk.open(0));
        Check.is(1, "opened anew it is as the running version", () -> desk.same(0, 10) ? 1 : 0);
        desk.open(1);
        desk.add(1, 2, 6, 0);
        desk.commit(1, 0);
        desk.add(0, 2, 6, 0);
        Check.noState("the base was 0, so that the key is added twice", () -> desk.commit(0, 0));
        Check.is(1, "open anew moves the base", () -> desk.open(0));
        desk.add(0, 2, 7, 0);
        Check.is(2, "commit from the new base", () -> desk.commit(0, 0));
        Check.compare("76", "the new version", Check.keys(desk, 12, 2));
    }

    private static void promise3() {
        ConfigDesk desk = new ConfigDesk();
        desk.open(1);
        Check.is(1, "add the first", () -> desk.add(1, 2, 9, 0));
        Check.is(2, "add ahead", () -> desk.add(1, 2, 0, 0));
        Check.is(3, "add at the end", () -> desk.add(1, 2, 4, 2));
        Check.is(4, "add between", () -> desk.add(1, 2, 5, 1));
        Check.compare("0594", "the order", Check.keys(desk, 1, 2));
        Check.is(0, "without values and group", () -> desk.own(1, 2, 1));
        Check.is(1, "the same key in another section", () -> desk.add(1, 0, 9, 0));
        desk.add(1, 2, 1, 4);
        Check.is(6, "add the sixth", () -> desk.add(1, 2, 2, 3));
        Check.compare("059241", "six entries", Check.keys(desk, 1, 2));
        Check.noState("a seventh", () -> desk.add(1, 2, 8, 0));
        Check.compare("059241", "still six entries", Check.keys(desk, 1, 2));
        desk.set(1, 2, 2, 0, 7);
        desk.join(1, 2, 2, 1);
        desk.remove(1, 2, 2);
        desk.add(1, 2, 2, 5);
        Check.is(0, "a key that comes back brings no values", () -> desk.own(1, 2, 5));
    }

    private static void promise3ThrowsInOrder() {
        ConfigDesk desk = deskWithThree();
        for (int candidate : NO_CANDIDATES) {
            Check.noIndex("add without candidate", () -> desk.add(candidate, 0, 0, -1));
        }
        for (int section : NO_SECTIONS) {
            Check.noIndex("add without section", () -> desk.add(1, section, 0, -1));
        }
        for (int key : NO_KEYS) {
            Check.noIndex("add without key", () -> desk.add(1, 0, key, -1));
        }
        Check.noState("add to a closed one", () -> desk.add(1, 0, 0, -1));
        Check.noState("add a key twice, at a wrong place", () -> desk.add(0, 1, 7, 9));
        for (int place : new int[] {-1, 4, Integer.MIN_VALUE, Integer.MAX_VALUE}) {
            Check.noArgument("add at " + place, () -> desk.add(0, 1, 0, place));
        }
        Check.compare("472", "nothing has changed", Check.keys(desk, 0, 1));
        desk.add(0, 1, 0, 3);
        desk.add(0, 1, 1, 4);
        desk.add(0, 1, 3, 5);
        Check.noState("add to a full section, at a wrong place", () -> desk.add(0, 1, 9, 7));
    }

    private static void promise4() {
        ConfigDesk desk = deskWithThree();
        desk.set(0, 1, 7, 0, 70);
        desk.set(0, 1, 2, 1, 20);
        Check.noIndex("remove without candidate", () -> desk.remove(3, 1, 4));
        Check.noIndex("remove without candidate", () -> desk.remove(-1, 1, 4));
        Check.noIndex("remove without section", () -> desk.remove(1, 3, 4));
        Check.noIndex("remove without section", () -> desk.remove(0, -1, 4));
        Check.noIndex("remove without key", () -> desk.remove(1, 1, 10));
        Check.noIndex("remove without key", () -> desk.remove(0, 1, -1));
        Check.noState("remove from a closed one", () -> desk.remove(1, 1, 4));
        Check.noState("remove what is not there", () -> desk.remove(0, 1, 5));
        Check.noState("remove what is in another section", () -> desk.remove(0, 0, 4));
        Check.is(3, "nothing has changed", () -> desk.size(0, 1));
        Check.is(1, "remove between", () -> desk.remove(0, 1, 7));
        Check.compare("42", "what is left", Check.keys(desk, 0, 1));
        Check.is(210, "the values go along", () -> desk.own(0, 1, 1));
        Check.is(1, "remove the last one", () -> desk.remove(0, 1, 2));
        Check.is(0, "remove the only one", () -> desk.remove(0, 1, 4));
        Check.is(0, "none is left", () -> desk.size(0, 1));
        Check.noState("remove twice", () -> desk.remove(0, 1, 4));
    }

    private static void promise5() {
        ConfigDesk desk = deskWithThree();
        desk.add(0, 1, 9, 3);
        desk.set(0, 1, 4, 0, 44);
        Check.is(0, "move to the end", () -> desk.move(0, 1, 4, 3));
        Check.compare("7294", "the order", Check.keys(desk, 0, 1));
        Check.is(450000, "the values go along", () -> desk.own(0, 1, 3));
        Check.is(3, "move to the start", () -> desk.move(0, 1, 4, 0));
        Check.compare("4729", "the order", Check.keys(desk, 0, 1));
        Check.is(1, "move by one", () -> desk.move(0, 1, 7, 2));
        Check.compare("4279", "the order", Check.keys(desk, 0, 1));
        Check.is(2, "move nowhere", () -> desk.move(0, 1, 7, 2));
        Check.compare("4279", "the order", Check.keys(desk, 0, 1));
    }

    private static void promise5ThrowsInOrder() {
        ConfigDesk desk = deskWithThree();
        Check.noIndex("move without candidate", () -> desk.move(3, 1, 4, 9));
        Check.noIndex("move without section", () -> desk.move(1, 3, 4, 9));
        Check.noIndex("move without section", () -> desk.move(1, -1, 4, 9));
        Check.noIndex("move without key", () -> desk.move(1, 1, 10, 9));
        Check.noIndex("move without key", () -> desk.move(1, 1, -1, 9));
        Check.noState("move in a closed one", () -> desk.move(1, 1, 4, 9));
        Check.noState("move what is not there", () -> desk.move(0, 1, 5, 9));
        for (int place : new int[] {-1, 3, Integer.MIN_VALUE, Integer.MAX_VALUE}) {
            Check.noArgument("move to " + place, () -> desk.move(0, 1, 4, place));
        }
        Check.compare("472", "nothing has changed", Check.keys(desk, 0, 1));
    }

    private static void promise6() {
        ConfigDesk desk = deskWithThree();
        Check.is(-1, "set the field 0", () -> desk.set(0, 1, 7, 0, 0));
        Check.is(0, "set it again", () -> desk.set(0, 1, 7, 0, 99));
        Check.is(-1, "set the field 1", () -> desk.set(0, 1, 7, 1, 5));
        Check.is(1000060, "both values", () -> desk.own(0, 1, 1));
        Check.is(99, "set to none", () -> desk.set(0, 1, 7, 0, -1));
        Check.is(60, "one value is left", () -> desk.own(0, 1, 1));
        Check.is(0, "the neighbours have none", () -> desk.own(0, 1, 0) + desk.own(0, 1, 2));
        desk.join(0, 1, 4, 1);
        desk.setGroup(0, 1, 0, 33);
        Check.is(-1, "the value before is its own, not the group's", () -> desk.set(0, 1, 4, 0, 1));
    }

    private static void promise6ThrowsInOrder() {
        ConfigDesk desk = deskWithThree();
        desk.set(0, 1, 4, 0, 6);
        for (int candidate : NO_CANDIDATES) {
            Check.noIndex("set without candidate", () -> desk.set(candidate, 1, 4, 0, 100));
        }
        for (int section : NO_SECTIONS) {
            Check.noIndex("set without section", () -> desk.set(1, section, 4, 0, 100));
        }
        for (int key : NO_KEYS) {
            Check.noIndex("set without key", () -> desk.set(1, 1, key, 0, 100));
        }
        for (int field : NO_FIELDS) {
            Check.noIndex("set without field", () -> desk.set(1, 1, 4, field, 100));
        }
        for (int value : NO_VALUES) {
            Check.noArgument("set to " + value, () -> desk.set(0, 1, 4, 0, value));
            Check.noArgument("set to " + value + " in a closed one", () -> desk.set(1, 1, 4, 0, value));
            Check.noArgument("set to " + value + " what is not there", () -> desk.set(0, 1, 5, 0, value));
        }
        Check.noState("set in a closed one", () -> desk.set(1, 1, 4, 0, 1));
        Check.noState("set what is not there", () -> desk.set(0, 1, 5, 0, 1));
        Check.is(70000, "nothing has changed", () -> desk.own(0, 1, 0));
    }

    private static void promise7() {
        ConfigDesk desk = deskWithThree();
        Check.is(-1, "join the group 0", () -> desk.join(0, 1, 2, 0));
        Check.is(0, "join the group 2", () -> desk.join(0, 1, 2, 2));
        Check.is(3, "it is in the group 2", () -> desk.own(0, 1, 2));
        Check.is(0, "the others are in none", () -> desk.own(0, 1, 0) + desk.own(0, 1, 1));
        Check.noIndex("join without candidate", () -> desk.join(3, 1, 2, 3));
        Check.noIndex("join without section", () -> desk.join(1, 3, 2, 3));
        Check.noIndex("join without section", () -> desk.join(1, -1, 2, 3));
        Check.noIndex("join without key", () -> desk.join(1, 1, 10, 3));
        Check.noIndex("join without key", () -> desk.join(1, 1, -1, 3));
        for (int group : new int[] {-2, 3, Integer.MIN_VALUE, Integer.MAX_VALUE}) {
            Check.noArgument("join " + group, () -> desk.join(0, 1, 2, group));
            Check.noArgument("join " + group + " in a closed one", () -> desk.join(1, 1, 2, group));
            Check.noArgument("join " + group + " by what is not there", () -> desk.join(0, 1, 5, group));
        }
        Check.noState("join in a closed one", () -> desk.join(1, 1, 2, 0));
        Check.noState("join by what is not there", () -> desk.join(0, 1, 5, 0));
        Check.is(2, "join none", () -> desk.join(0, 1, 2, -1));
        Check.is(0, "it is in none", () -> desk.own(0, 1, 2));
    }

    private static void promise8() {
        ConfigDesk desk = deskWithThree();
        desk.open(1);
        desk.join(0, 1, 4, 2);
        Check.is(-1, "set a field of a group", () -> desk.setGroup(0, 2, 1, 99));
        Check.is(99, "set it again", () -> desk.setGroup(0, 2, 1, 0));
        Check.is(0, "the entry shows it", () -> desk.shown(0, 1, 0, 1));
        Check.is(-1, "the other field has none", () -> desk.shown(0, 1, 0, 0));
        Check.is(-1, "the other candidate has none", () -> desk.setGroup(1, 2, 1, 8));
        Check.noIndex("setGroup without candidate", () -> desk.setGroup(3, 0, 0, 100));
        Check.noIndex("setGroup without candidate", () -> desk.setGroup(-1, 0, 0, 100));
        for (int group : NO_SECTIONS) {
            Check.noIndex("setGroup without group", () -> desk.setGroup(2, group, 0, 100));
        }
        for (int field : NO_FIELDS) {
            Check.noIndex("setGroup without field", () -> desk.setGroup(2, 0, field, 100));
        }
        for (int value : NO_VALUES) {
            Check.noArgument("setGroup to " + value, () -> desk.setGroup(0, 2, 1, value));
            Check.noArgument("setGroup to " + value + " in a closed one", () -> desk.setGroup(2, 2, 1, value));
        }
        Check.noState("setGroup in a closed one", () -> desk.setGroup(2, 2, 1, 1));
        Check.is(0, "set it to none", () -> desk.setGroup(0, 2, 1, -1));
        Check.is(-1, "it has none", () -> desk.setGroup(0, 2, 1, -1));
    }

    private static void promise9() {
        ConfigDesk desk = deskWithThree();
        desk.setGroup(0, 1, 1, 12);
        desk.commit(0, 0);
        desk.open(0);
        desk.add(0, 0, 1, 0);
        Check.noIndex("load without candidate", () -> load(desk, 3, 0));
        Check.noIndex("load without candidate", () -> load(desk, -1, 0));
        for (int version : new int[] {-1, 2, 10, 11, Integer.MIN_VALUE, Integer.MAX_VALUE}) {
            Check.noIndex("load the version " + version, () -> load(desk, 0, version));
            Check.noIndex("load the version " + version + " into a closed one", () -> load(desk, 1, version));
        }
        Check.noState("load into a closed one", () -> load(desk, 1, 1));
        Check.is(1, "nothing has changed", () -> desk.size(0, 0));
        Check.is(1, "load the version 0", () -> load(desk, 0, 0));
        Check.is(1, "it is the version 0", () -> desk.same(0, 10) ? 1 : 0);
        Check.is(2, "its base stays, so that this empties the desk", () -> desk.commit(0, 0));
        Check.is(1, "the new version is empty", () -> desk.same(12, 10) ? 1 : 0);
        desk.open(0);
        Check.is(1, "load the version 1", () -> load(desk, 0, 1));
        Check.is(1, "it is the version 1", () -> desk.same(0, 11) ? 1 : 0);
        desk.add(0, 1, 5, 0);
        Check.compare("472", "the version is not edited", Check.keys(desk, 11, 1));
    }

    private static int load(ConfigDesk desk, int candidate, int version) {
        desk.load(candidate, version);
        return 1;
    }
}
