/** Promises 1 and 18 to 24: what configurations tell of themselves. */
public final class ConfigurationsTest {
    private static final int[] NO_CONFIGURATIONS = {-1, 1, 2, 3, 9, 12, 40, Integer.MIN_VALUE, Integer.MAX_VALUE};
    private static final int[] NO_SECTIONS = {-1, 3, Integer.MIN_VALUE, Integer.MAX_VALUE};

    public static void main(String[] args) {
        promise1();
        promises18And19();
        promise20();
        promise21();
        promise22();
        promise23();
        promise24();
        promise24OrderOfEdits();
        longestList();
        Check.end("ConfigurationsTest");
    }

    /** The version 1 and the candidate 0 have the keys 4, 2 in the section 1; the key 2 belongs to the group 0. */
    private static ConfigDesk deskWithTwo() {
        ConfigDesk desk = new ConfigDesk();
        desk.open(0);
        desk.add(0, 1, 4, 0);
        desk.add(0, 1, 2, 1);
        desk.join(0, 1, 2, 0);
        desk.setGroup(0, 0, 1, 60);
        desk.commit(0, 0);
        desk.open(0);
        return desk;
    }

    private static void promise1() {
        ConfigDesk desk = new ConfigDesk();
        Check.is(0, "the running version", () -> desk.running());
        Check.is(-1, "nothing waits", () -> desk.waiting());
        Check.is(0, "no rules", () -> desk.faults(10));
        for (int i = 0; i < 3; i++) {
            int number = i;
            Check.is(0, "no entries", () -> desk.size(10, number));
            Check.noIndex("no candidate", () -> desk.size(number, 0));
            Check.noState("no candidate", () -> desk.commit(number, 0));
        }
        Check.noIndex("no version 1", () -> desk.size(11, 0));
        desk.open(0);
        for (int i = 0; i < 6; i++) {
            int number = i;
            Check.is(-1, "no value", () -> desk.setGroup(0, number / 2, number % 2, 0));
        }
        Check.is(6, "no values in the groups of the version 0", () -> desk.edits(10, 0));
    }

    private static void promises18And19() {
        ConfigDesk desk = deskWithTwo();
        desk.add(0, 1, 9, 0);
        Check.is(0, "no entries", () -> desk.size(11, 0));
        Check.is(2, "entries of a version", () -> desk.size(11, 1));
        Check.is(3, "entries of a candidate", () -> desk.size(0, 1));
        Check.is(4, "the first key of a version", () -> desk.keyAt(11, 1, 0));
        Check.is(2, "the last key of a version", () -> desk.keyAt(11, 1, 1));
        Check.is(9, "the first key of a candidate", () -> desk.keyAt(0, 1, 0));
        for (int which : NO_CONFIGURATIONS) {
            Check.noIndex("size of " + which, () -> desk.size(which, 1));
            Check.noIndex("keyAt of " + which, () -> desk.keyAt(which, 1, 0));
        }
        for (int section : NO_SECTIONS) {
            Check.noIndex("size of the section " + section, () -> desk.size(11, section));
            Check.noIndex("keyAt of the section " + section, () -> desk.keyAt(11, section, 0));
        }
        for (int place : new int[] {-1, 2, 5, 6, Integer.MIN_VALUE, Integer.MAX_VALUE}) {
            Check.noIndex("keyAt of the place " + place, () -> desk.keyAt(11, 1, place));
        }
        desk.remove(0, 1, 2);
        Check.noIndex("keyAt of what was removed", () -> desk.keyAt(0, 1, 2));
        Check.noIndex("keyAt of what is empty", () -> desk.keyAt(0, 2, 0));
    }

    private static void promise20() {
        ConfigDesk desk = deskWithTwo();
        Check.is(60, "the group's value", () -> desk.shown(11, 1, 1, 1));
        Check.is(-1, "the group has none", () -> desk.shown(11, 1, 1, 0));
        Check.is(-1, "no group", () -> desk.shown(11, 1, 0, 1));
        desk.set(0, 1, 2, 1, 0);
        Check.is(0, "the own value", () -> desk.shown(0, 1, 1, 1));
        desk.set(0, 1, 2, 1, -1);
        desk.setGroup(0, 0, 1, 61);
        Check.is(61, "the group's value in the candidate", () -> desk.shown(0, 1, 1, 1));
        Check.is(60, "the group's value in the version", () -> desk.shown(11, 1, 1, 1));
        desk.join(0, 1, 2, 1);
        Check.is(-1, "another group", () -> desk.shown(0, 1, 1, 1));
        desk.set(0, 1, 4, 0, 99);
        Check.is(99, "the own value without a group", () -> desk.shown(0, 1, 0, 0));
        for (int which : NO_CONFIGURATIONS) {
            Check.noIndex("shown of " + which, () -> desk.shown(which, 1, 0, 0));
        }
        for (int section : NO_SECTIONS) {
            Check.noIndex("shown of the section " + section, () -> desk.shown(11, section, 0, 0));
        }
        for (int place : new int[] {-1, 2, 6, Integer.MIN_VALUE, Integer.MAX_VALUE}) {
            Check.noIndex("shown of the place " + place, () -> desk.shown(11, 1, place, 0));
        }
        for (int field : new int[] {-1, 2, Integer.MIN_VALUE, Integer.MAX_VALUE}) {
            Check.noIndex("shown of the field " + field, () -> desk.shown(11, 1, 0, field));
        }
    }

    private static void promise21() {
        ConfigDesk desk = deskWithTwo();
        Check.is(0, "nothing", () -> desk.own(11, 1, 0));
        Check.is(1, "the group 0, and not its value", () -> desk.own(11, 1, 1));
        desk.set(0, 1, 4, 0, 0);
        Check.is(10000, "the field 0", () -> desk.own(0, 1, 0));
        desk.set(0, 1, 4, 1, 0);
        Check.is(10010, "both fields", () -> desk.own(0, 1, 0));
        desk.set(0, 1, 4, 0, 99);
        desk.set(0, 1, 4, 1, 99);
        desk.join(0, 1, 4, 2);
        Check.is(1001003, "the most", () -> desk.own(0, 1, 0));
        for (int which : NO_CONFIGURATIONS) {
            Check.noIndex("own of " + which, () -> desk.own(which, 1, 0));
        }
        for (int section : NO_SECTIONS) {
            Check.noIndex("own of the section " + section, () -> desk.own(11, section, 0));
        }
        for (int place : new int[] {-1, 2, 6, Integer.MIN_VALUE, Integer.MAX_VALUE}) {
            Check.noIndex("own of the place " + place, () -> desk.own(11, 1, place));
        }
    }

    private static void promise22() {
        ConfigDesk desk = deskWithTwo();
        Check.is(1, "a candidate as it was opened", () -> same(desk, 0, 11));
        Check.is(1, "itself", () -> same(desk, 0, 0));
        Check.is(0, "the version 0", () -> same(desk, 0, 10));
        desk.move(0, 1, 2, 0);
        Check.is(0, "another order", () -> same(desk, 0, 11));
        desk.move(0, 1, 2, 1);
        for (int field = 0; field < 2; field++) {
            desk.set(0, 1, 4, field, 1);
            Check.is(0, "another value", () -> same(desk, 0, 11));
            desk.set(0, 1, 4, field, -1);
        }
        desk.join(0, 1, 4, 2);
        Check.is(0, "another group", () -> same(desk, 11, 0));
        desk.join(0, 1, 4, -1);
        desk.join(0, 1, 2, -1);
        desk.set(0, 1, 2, 1, 60);
        Check.is(0, "it shows the same, but has it itself", () -> same(desk, 0, 11));
        desk.load(0, 1);
        for (int group = 0; group < 3; group++) {
            for (int field = 0; field < 2; field++) {
                int before = desk.setGroup(0, group, field, 0);
                Check.is(0, "another value of a group", () -> same(desk, 0, 11));
                desk.setGroup(0, group, field, before);
            }
        }
        Check.is(1, "as it was", () -> same(desk, 0, 11));
        desk.remove(0, 1, 4);
        desk.add(0, 1, 5, 0);
        Check.is(0, "another key", () -> same(desk, 0, 11));
        desk.load(0, 1);
        for (int section = 0; section < 3; section++) {
            desk.add(0, section, 5, 0);
            Check.is(0, "one more in a section", () -> same(desk, 0, 11));
            desk.load(0, 1);
        }
        desk.remove(0, 1, 2);
        Check.is(0, "one less", () -> same(desk, 0, 11));
        for (int which : NO_CONFIGURATIONS) {
            Check.noIndex("same(" + which + ", 10)", () -> same(desk, which, 10));
            Check.noIndex("same(10, " + which + ")", () -> same(desk, 10, which));
        }
    }

    private static int same(ConfigDesk desk, int which, int other) {
        return desk.same(which, other) ? 1 : 0;
    }

    private static void promise23() {
        ConfigDesk desk = deskWithTwo();
        Check.is(0, "to itself", () -> desk.edits(0, 0));
        Check.is(0, "to the same", () -> desk.edits(0, 11));
        Check.is(3, "from the version 0", () -> desk.edits(10, 11));
        Check.is(3, "to the version 0", () -> desk.edits(11, 10));
        for (int which : NO_CONFIGURATIONS) {
            Check.noIndex("edits(" + which + ", 10)", () -> desk.edits(which, 10));
            Check.noIndex("edits(10, " + which + ")", () -> desk.edits(10, which));
        }
    }

    private static void promise24() {
        ConfigDesk desk = deskWithTwo();
        Check.is(142, "the first addition", () -> desk.editAt(10, 11, 0));
        Check.is(122, "an addition with a group is one edit", () -> desk.editAt(10, 11, 1));
        Check.is(901, "a field of a group", () -> desk.editAt(10, 11, 2));
        Check.is(121, "the last one is removed first", () -> desk.editAt(11, 10, 0));
        Check.is(141, "the first one is removed last", () -> desk.editAt(11, 10, 1));
        Check.is(901, "a field of a group", () -> desk.editAt(11, 10, 2));
        for (int k : new int[] {-1, 3, Integer.MIN_VALUE, Integer.MAX_VALUE}) {
            Check.noIndex("editAt(11, 10, " + k + ")", () -> desk.editAt(11, 10, k));
        }
        Check.noIndex("no edits", () -> desk.editAt(0, 11, 0));
        for (int which : NO_CONFIGURATIONS) {
            Check.noIndex("editAt(" + which + ", 10, 0)", () -> desk.editAt(which, 10, 0));
            Check.noIndex("editAt(10, " + which + ", 0)", () -> desk.editAt(10, which, 0));
        }
    }

    private static void promise24OrderOfEdits() {
        ConfigDesk desk = new ConfigDesk();
        desk.open(0);
        desk.open(1);
        addAll(desk, 0, 0, "0123");
        addAll(desk, 1, 0, "3210");
        Check.compare("33 23 13", "turned round", Check.codes(desk, 0, 1));
        addAll(desk, 0, 2, "97531");
        addAll(desk, 1, 2, "15628");
        // 97531, then 9, 7, 3 go: 51, then 1 to the front: 15, then 6, 2 and 8 come.
        Check.compare("33 23 13 231 271 291 213 262 222 282", "all parts", Check.codes(desk, 0, 1));
        Check.compare("3 13 23 281 221 261 292 272 253 232", "all parts backwards", Check.codes(desk, 1, 0));
        for (int field = 0; field < 2; field++) {
            desk.set(1, 2, 5, field, 8);
            desk.set(1, 2, 1, 1 - field, 8);
            desk.set(1, 2, 8, field, 8);
        }
        desk.join(1, 2, 5, 0);
        desk.join(1, 2, 1, 1);
        desk.join(1, 0, 3, 2);
        desk.setGroup(1, 2, 1, 3);
        desk.setGroup(1, 2, 0, 3);
        desk.setGroup(0, 0, 1, 3);
        Check.compare("33 23 13 36 231 271 291 213 262 222 282 214 215 216 254 255 256 901 920 921", "settings",
            Check.codes(desk, 0, 1));
    }

    /** No list is longer: of six entries five are moved, and each has three settings. */
    private static void longestList() {
        ConfigDesk desk = new ConfigDesk();
        desk.open(0);
        desk.open(1);
        for (int section = 0; section < 3; section++) {
            addAll(desk, 0, section, "012345");
            addAll(desk, 1, section, "543210");
            for (int key = 0; key < 6; key++) {
                desk.set(1, section, key, 0, 1);
                desk.set(1, section, key, 1, 2);
                desk.join(1, section, key, 0);
            }
        }
        for (int group = 0; group < 3; group++) {
            desk.setGroup(1, group, 0, 3);
            desk.setGroup(1, group, 1, 4);
        }
        Check.is(75, "all moved but one, all set", () -> desk.edits(0, 1));
        Check.is(921, "the last one", () -> desk.editAt(0, 1, 74));
        Check.is(75, "apply them", () -> desk.apply(0, 0, 1, false));
        Check.is(1, "they lead there", () -> same(desk, 0, 1));
    }

    private static void addAll(ConfigDesk desk, int candidate, int section, String keys) {
        for (int i = 0; i < keys.length(); i++) {
            desk.add(candidate, section, keys.charAt(i) - '0', i);
        }
    }
}
