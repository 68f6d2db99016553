import java.util.function.Consumer;
import java.util.function.Supplier;

/** The edges of the promises 1 and 18 to 24, of what the terms say of lists of edits, and of the 512 calls. */
public final class ConfigurationEdgesTest {
    private static final Class<? extends RuntimeException> INDEX = Edge.INDEX;

    /** The sections have no entry, the keys 9, 0, 5, 1, 3, 7 and the keys 4, 8, 2; the candidate 1 is closed. */
    private static final Supplier<ConfigDesk> DESKS = Desks.closing(1, Desks.OPEN);

    public static void main(String[] args) {
        newObject();
        size();
        keyAt();
        shown();
        shownValues();
        own();
        ownValues();
        same();
        sameBut();
        edits();
        editAt();
        afterThirtyVersions();
        additionsAndRemovals();
        moves();
        settingsOfEntries();
        settingsOfGroups();
        lowestAndHighestCodes();
        all512Calls();
        Check.end("ConfigurationEdgesTest");
    }

    private static void is(long due, String what, Edge.Call call) {
        Edge.answers(due, what, ConfigDesk::new, call);
    }

    /** "The version 0 alone; no candidate is open, no rules, the time is 0." */
    private static void newObject() {
        is(0, "the version 0 runs", desk -> desk.running());
        is(-1, "nothing waits", desk -> desk.waiting());
        is(0, "no rules", desk -> desk.faults(10));
        is(0, "no rules, so the first one is 0", desk -> desk.rule(0, 0, 0, 0));
        is(1, "the version 0 is itself", desk -> Desks.same(desk, 10, 10));
        is(0, "no edits from it to itself", desk -> desk.edits(10, 10));
        Edge.refused(INDEX, "no version 1", ConfigDesk::new, desk -> desk.size(11, 0));
        Edge.refused(Edge.STATE, "none waits", ConfigDesk::new, desk -> desk.confirm());
        for (int i = 0; i < 3; i++) {
            int number = i;
            is(0, "no entries", desk -> desk.size(10, number));
            Edge.refused(INDEX, "no first entry", ConfigDesk::new, desk -> desk.keyAt(10, number, 0));
            Edge.refused(INDEX, "the candidate is not open", ConfigDesk::new, desk -> desk.size(number, 0));
            Edge.refused(Edge.STATE, "it is not open", ConfigDesk::new, desk -> desk.add(number, 0, 0, 0));
            Edge.refused(Edge.STATE, "it is not open", ConfigDesk::new, desk -> desk.setGroup(number, 0, 0, 0));
            Edge.refused(Edge.STATE, "it is not open", ConfigDesk::new, desk -> Desks.load(desk, number, 0));
            Edge.refused(Edge.STATE, "it is not open", ConfigDesk::new, desk -> desk.commit(number, 0));
            for (int j = 0; j < 6; j++) {
                int group = j / 2;
                int field = j % 2;
                is(-1, "no value in a group", desk -> {
                    desk.open(number);
                    return desk.setGroup(number, group, field, 0);
                });
            }
        }
    }

    private static void size() {
        Edge.configurations("size of", DESKS, new long[] {6, 6, 0, 6}, (desk, n) -> desk.size(n, 1));
        Edge.range(INDEX, "size of the section", DESKS, 0, 0, 2, 3, (desk, n) -> desk.size(11, n));
        Edge.range(INDEX, "size of a candidate's section", DESKS, 0, 0, 2, 3, (desk, n) -> desk.size(0, n));
        Edge.refused(INDEX, "no configuration, no section", DESKS, desk -> desk.size(1, 3));
        for (int i = 0; i <= 6; i++) {
            int count = i;
            Edge.answers(count, "so many entries", Desks.with("", "", "905137".substring(0, count)),
                desk -> desk.size(11, 2));
        }
    }

    private static void keyAt() {
        Edge.configurations("keyAt of", DESKS, new long[] {9, 9, 0, 9}, (desk, n) -> {
            if (n == 10) {
                Check.noIndex("keyAt of nothing", () -> desk.keyAt(10, 1, 0));
                return 0;
            }
            return desk.keyAt(n, 1, 0);
        });
        Edge.range(INDEX, "keyAt of the section", Desks.with("3", "", "4"), 0, 3, 2, 4,
            (desk, n) -> desk.keyAt(11, n, 0));
        Edge.range(INDEX, "keyAt, of six, the place", DESKS, 0, 9, 5, 7, (desk, n) -> desk.keyAt(12, 1, n));
        Edge.range(INDEX, "keyAt, of three, the place", DESKS, 0, 4, 2, 2, (desk, n) -> desk.keyAt(0, 2, n));
        Edge.refused(INDEX, "keyAt, of none, the place 0", DESKS, desk -> desk.keyAt(0, 0, 0));
        Edge.refused(INDEX, "keyAt, of none, the place -1", DESKS, desk -> desk.keyAt(0, 0, -1));
        ConfigDesk desk = DESKS.get();
        desk.remove(0, 1, 7);
        Check.noIndex("a place that there was", () -> desk.keyAt(0, 1, 5));
        Check.is(7, "there is in the version", () -> desk.keyAt(11, 1, 5));
        desk.add(0, 1, 6, 5);
        Check.is(6, "a place that there is again", () -> desk.keyAt(0, 1, 5));
    }

    private static void shown() {
        Supplier<ConfigDesk> desks = Desks.with("3", "", "4");
        Edge.configurations("shown of", DESKS, new long[] {99, 99, -2, 99}, (desk, n) -> {
            if (n == 10) {
                Check.noIndex("shown of nothing", () -> desk.shown(10, 1, 0, 0));
                return -2;
            }
            return desk.shown(n, 1, 0, 0);
        });
        Edge.range(INDEX, "shown of the section", desks, 0, 33, 2, 44, (desk, n) -> desk.shown(11, n, 0, 0));
        Edge.range(INDEX, "shown, of six, the place", DESKS, 0, 99, 5, 77, (desk, n) -> desk.shown(12, 1, n, 0));
        Edge.range(INDEX, "shown, of three, the place", DESKS, 0, 44, 2, 22, (desk, n) -> desk.shown(0, 2, n, 0));
        Edge.refused(INDEX, "shown, of none, the place 0", DESKS, desk -> desk.shown(0, 0, 0, 0));
        Edge.range(INDEX, "shown, the field", DESKS, 0, 77, 1, 50, (desk, n) -> desk.shown(12, 1, 5, n));
        Edge.range(INDEX, "shown, without group, the field", DESKS, 0, 99, 1, -1, (desk, n) -> desk.shown(0, 1, 0, n));
    }

    /** "its own value; without one, the value of its group, if it belongs to one, or none" */
    private static void shownValues() {
        for (int i = 0; i < 2; i++) {
            int field = i;
            for (int own : new int[] {-1, 0, 1, 99}) {
                for (int group = -1; group < 3; group++) {
                    for (int value : new int[] {-1, 0, 99}) {
                        ConfigDesk desk = new ConfigDesk();
                        desk.open(0);
                        desk.add(0, 2, 9, 0);
                        desk.set(0, 2, 9, field, own);
                        desk.set(0, 2, 9, 1 - field, 7);
                        desk.join(0, 2, 9, group);
                        for (int other = 0; other < 3; other++) {
                            desk.setGroup(0, other, 1 - field, 8);
                            desk.setGroup(0, other, field, other == group ? value : 5);
                        }
                        int due = own != -1 || group == -1 ? own : value;
                        Check.is(due, "own " + own + ", in the group " + group + " with " + value,
                            () -> desk.shown(0, 2, 0, field));
                        Check.is(7, "its other field", () -> desk.shown(0, 2, 0, 1 - field));
                    }
                }
            }
        }
    }

    private static void own() {
        Edge.configurations("own of", DESKS, new long[] {1000000, 1000000, -2, 1000000}, (desk, n) -> {
            if (n == 10) {
                Check.noIndex("own of nothing", () -> desk.own(10, 1, 0));
                return -2;
            }
            return desk.own(n, 1, 0);
        });
        Edge.range(INDEX, "own of the section", Desks.with("3", "", "4"), 0, 340001, 2, 450002,
            (desk, n) -> desk.own(11, n, 0));
        Edge.range(INDEX, "own, of six, the place", DESKS, 0, 1000000, 5, 780002, (desk, n) -> desk.own(12, 1, n));
        Edge.range(INDEX, "own, of three, the place", DESKS, 0, 450002, 2, 230003, (desk, n) -> desk.own(0, 2, n));
        Edge.refused(INDEX, "own, of none, the place 0", DESKS, desk -> desk.own(0, 0, 0));
    }

    private static void ownValues() {
        for (int first : new int[] {-1, 0, 1, 98, 99}) {
            for (int second : new int[] {-1, 0, 1, 98, 99}) {
                for (int group = -1; group < 3; group++) {
                    ConfigDesk desk = DESKS.get();
                    desk.set(0, 2, 2, 0, first);
                    desk.set(0, 2, 2, 1, second);
                    desk.join(0, 2, 2, group);
                    Check.is(10000 * (first + 1) + 10 * (second + 1) + group + 1, "own", () -> desk.own(0, 2, 2));
                }
            }
        }
    }

    private static void same() {
        Edge.configurations("same, first", DESKS, new long[] {1, 1, 0, 1}, (desk, n) -> Desks.same(desk, n, 11));
        Edge.configurations("same, then", DESKS, new long[] {1, 1, 0, 1}, (desk, n) -> Desks.same(desk, 11, n));
        Edge.configurations("same, twice", DESKS, new long[] {1, 1, 1, 1}, (desk, n) -> Desks.same(desk, n, n));
    }

    private static void isOther(String what, Consumer<ConfigDesk> edits) {
        ConfigDesk desk = DESKS.get();
        edits.accept(desk);
        Check.is(0, what, () -> Desks.same(desk, 0, 12));
        Check.is(0, what + ", the other way", () -> Desks.same(desk, 12, 0));
        Check.is(1, "the other candidate", () -> Desks.same(desk, 2, 12));
    }

    /** "the same entries in the same order with the same values and groups, and the same values in groups" */
    private static void sameBut() {
        isOther("one more than none", desk -> desk.add(0, 0, 0, 0));
        isOther("one more behind the last one", desk -> desk.add(0, 2, 0, 3));
        isOther("one less, the first", desk -> desk.remove(0, 1, 9));
        isOther("one less, the last", desk -> desk.remove(0, 1, 7));
        isOther("the first two exchanged", desk -> desk.move(0, 1, 9, 1));
        isOther("the last two exchanged", desk -> desk.move(0, 1, 7, 4));
        isOther("another key alone", desk -> {
            desk.remove(0, 1, 9);
            desk.add(0, 1, 8, 0);
            desk.set(0, 1, 8, 0, 99);
        });
        for (int key : new int[] {9, 5, 7}) {
            isOther("another value of the field 0", desk -> desk.set(0, 1, key, 0, 54));
            isOther("no value of the field 0", desk -> desk.set(0, 1, key, 0, -1));
            isOther("a value of the field 1, 0", desk -> desk.set(0, 1, key, 1, 0));
            isOther("another group", desk -> desk.join(0, 1, key, 0));
        }
        isOther("the group's value as its own", desk -> desk.set(0, 1, 7, 1, 50));
        for (int i = 0; i < 6; i++) {
            int group = i / 2;
            int field = i % 2;
            isOther("another value in a group", desk -> desk.setGroup(0, group, field, 98));
            isOther("0 for none, or none", desk -> desk.setGroup(0, group, field, field == 0 ? 0 : -1));
        }
    }

    private static void edits() {
        Edge.configurations("edits from", DESKS, new long[] {0, 0, 12, 0}, (desk, n) -> desk.edits(n, 11));
        Edge.configurations("edits to", DESKS, new long[] {0, 0, 12, 0}, (desk, n) -> desk.edits(11, n));
        Edge.configurations("edits, twice", DESKS, new long[] {0, 0, 0, 0}, (desk, n) -> desk.edits(n, n));
        Edge.refused(INDEX, "neither", DESKS, desk -> desk.edits(1, 13));
    }

    /** "k: from 0", below the number of edits */
    private static void editAt() {
        Edge.configurations("editAt from", DESKS, new long[] {171, 171, 0, 171}, (desk, n) -> {
            if (n == 10) {
                Check.noIndex("no edits", () -> desk.editAt(10, 10, 0));
                return 0;
            }
            return desk.editAt(n, 10, 0);
        });
        Edge.configurations("editAt to", DESKS, new long[] {192, 192, 0, 192}, (desk, n) -> {
            if (n == 10) {
                Check.noIndex("no edits", () -> desk.editAt(10, n, 0));
                return 0;
            }
            return desk.editAt(10, n, 0);
        });
        Edge.range(INDEX, "editAt, of twelve,", DESKS, 0, 192, 11, 921, (desk, n) -> desk.editAt(10, 11, n));
        Edge.range(INDEX, "editAt, of one,", () -> {
            ConfigDesk desk = DESKS.get();
            desk.set(0, 2, 8, 1, 5);
            return desk;
        }, 0, 285, 0, 285, (desk, n) -> desk.editAt(11, 0, n));
        for (int k : new int[] {-1, 0, 1}) {
            Edge.refused(INDEX, "editAt, of none, " + k, DESKS, desk -> desk.editAt(11, 0, k));
        }
        Edge.refused(INDEX, "no configuration, no edit", DESKS, desk -> desk.editAt(1, 10, -1));
    }

    /** "There can be 30 versions." */
    private static void afterThirtyVersions() {
        for (int count = 29; count <= 30; count++) {
            Supplier<ConfigDesk> desks = Desks.versions(count);
            int last = 9 + count;
            int none = 10 + count;
            Edge.answers(1, "size of the last version", desks, desk -> desk.size(last, 2));
            Edge.answers(5, "keyAt of the last version", desks, desk -> desk.keyAt(last, 2, 0));
            Edge.answers(55, "shown of the last version", desks, desk -> desk.shown(last, 2, 0, 0));
            Edge.answers(560003, "own of the last version", desks, desk -> desk.own(last, 2, 0));
            Edge.answers(1, "same of the last version", desks, desk -> Desks.same(desk, last, 11));
            Edge.answers(4, "edits of the last version", desks, desk -> desk.edits(10, last));
            Edge.answers(252, "editAt of the last version", desks, desk -> desk.editAt(10, last, 0));
            Edge.refused(INDEX, "size of none", desks, desk -> desk.size(none, 2));
            Edge.refused(INDEX, "keyAt of none", desks, desk -> desk.keyAt(none, 2, 0));
            Edge.refused(INDEX, "shown of none", desks, desk -> desk.shown(none, 2, 0, 0));
            Edge.refused(INDEX, "own of none", desks, desk -> desk.own(none, 2, 0));
            Edge.refused(INDEX, "same of none", desks, desk -> Desks.same(desk, none, 11));
            Edge.refused(INDEX, "same of none, then", desks, desk -> Desks.same(desk, 11, none));
            Edge.refused(INDEX, "edits of none", desks, desk -> desk.edits(10, none));
            Edge.refused(INDEX, "editAt of none", desks, desk -> desk.editAt(none, 10, 0));
        }
    }

    /** The edits from the candidate 1 to the candidate 0, whose sections have these keys. */
    private static void codes(String due, String from, String to) {
        ConfigDesk desk = new ConfigDesk();
        desk.open(0);
        desk.open(1);
        for (int i = 0; i < from.length(); i++) {
            desk.add(1, 2, from.charAt(i) - '0', i);
        }
        for (int i = 0; i < to.length(); i++) {
            desk.add(0, 2, to.charAt(i) - '0', i);
        }
        Check.compare(due, "the edits from " + from + " to " + to, Check.codes(desk, 1, 0));
    }

    /** "the last one first", "the places of B are gone through by rising numbers" */
    private static void additionsAndRemovals() {
        codes("", "", "");
        codes("", "905137", "905137");
        codes("202", "", "0");
        codes("201", "0", "");
        codes("292 202 252 212 232 272", "", "905137");
        codes("271 231 211 251 201 291", "905137", "");
        codes("201 292", "0", "9");
        codes("251 241 231 221 211 201 262 272 282 292", "012345", "6789");
        codes("231 221 211 201 262 272 282 292", "012345", "678945");
        codes("231 221 211 201 262 272 282 292", "041235", "647895");
        codes("272", "90513", "905137");
        codes("272", "90513", "790513");
        codes("271", "905137", "90513");
        codes("291", "905137", "05137");
    }

    /** "if it is there, but not at this place, it is moved to this place" */
    private static void moves() {
        codes("213", "01", "10");
        codes("253", "012345", "501234");
        codes("213 223 233 243 253", "012345", "123450");
        codes("253 243 233 223 213", "012345", "543210");
        codes("253", "012345", "012354");
        codes("213", "012345", "102345");
        codes("201 253 262", "012345", "516234");
    }

    private static void settingsOfEntries() {
        ConfigDesk desk = new ConfigDesk();
        desk.open(0);
        desk.open(1);
        for (int section = 0; section < 3; section++) {
            for (int i = 0; i < 6; i++) {
                desk.add(0, section, "905137".charAt(i) - '0', i);
                desk.add(1, section, "905137".charAt(i) - '0', i);
            }
        }
        StringBuilder due = new StringBuilder();
        for (int section = 0; section < 3; section++) {
            for (int key : new int[] {0, 1, 3, 5, 7, 9}) {
                desk.set(0, section, key, 0, 0);
                desk.set(0, section, key, 1, 99);
                desk.join(0, section, key, 0);
                for (int kind = 4; kind <= 6; kind++) {
                    due.append(due.length() == 0 ? "" : " ").append(100 * section + 10 * key + kind);
                }
            }
        }
        Check.compare(due.toString(), "by rising keys, fields, group", Check.codes(desk, 1, 0));
        Check.compare(due.toString(), "the other way", Check.codes(desk, 0, 1));
        Check.is(54, "so many", () -> desk.edits(1, 0));
        desk.set(1, 2, 9, 0, 0);
        desk.join(1, 0, 0, 0);
        Check.is(52, "as far as they differ", () -> desk.edits(1, 0));
        desk.remove(0, 1, 5);
        Check.is(50, "a removal alone of what is not there", () -> desk.edits(1, 0));
        desk.remove(1, 1, 5);
        desk.remove(1, 1, 7);
        Check.is(47, "an addition alone of what was not there", () -> desk.edits(1, 0));
    }

    /** "Behind the sections, the fields of the groups" */
    private static void settingsOfGroups() {
        for (int i = 0; i < 6; i++) {
            int group = i / 2;
            int field = i % 2;
            for (int[] change : new int[][] {{-1, 0}, {0, -1}, {0, 99}, {98, 99}}) {
                ConfigDesk desk = new ConfigDesk();
                desk.open(0);
                desk.open(1);
                desk.setGroup(0, group, field, change[0]);
                desk.setGroup(1, group, field, change[0]);
                Check.is(0, "as far as they differ", () -> desk.edits(0, 1));
                desk.setGroup(1, group, field, change[1]);
                desk.add(1, 2, 9, 0);
                Check.compare("292 " + (900 + 10 * group + field), "behind the sections", Check.codes(desk, 0, 1));
            }
        }
    }

    private static void lowestAndHighestCodes() {
        ConfigDesk desk = new ConfigDesk();
        desk.open(0);
        desk.add(0, 0, 0, 0);
        Check.is(1, "the removal of the key 0", () -> desk.editAt(0, 10, 0));
        Check.is(2, "the addition of the key 0", () -> desk.editAt(10, 0, 0));
        desk.add(0, 2, 9, 0);
        desk.commit(0, 0);
        desk.open(0);
        desk.join(0, 2, 9, 2);
        Check.is(296, "the group of the key 9", () -> desk.editAt(11, 0, 0));
        desk.setGroup(0, 2, 1, 0);
        Check.is(921, "the group 2's field 1", () -> desk.editAt(11, 0, 1));
        desk.setGroup(0, 0, 0, 0);
        Check.is(900, "the group 0's field 0", () -> desk.editAt(11, 0, 1));
    }

    /** "An object is used for at most 512 calls": the last ones answer as the first ones. */
    private static void all512Calls() {
        ConfigDesk desk = new ConfigDesk();
        desk.open(0);
        desk.open(1);
        for (int i = 0; i < 6; i++) {
            desk.add(0, 1, i, i);
        }
        int calls = 8;
        for (; calls < 500; calls += 4) {
            Check.is(6, "apply", () -> desk.apply(1, 10, 0, false));
            Check.is(151, "the last one first", () -> desk.editAt(1, 10, 0));
            Check.noState("apply twice", () -> desk.apply(1, 10, 0, false));
            Check.is(6, "apply backwards", () -> desk.apply(1, 10, 0, true));
        }
        Check.is(1, "commit", () -> desk.commit(0, 11));
        for (calls += 1; calls < 511; calls++) {
            Check.is(1, "advance", () -> desk.advance(1));
        }
        Check.is(1, "the 512th call", () -> desk.waiting());
    }
}
