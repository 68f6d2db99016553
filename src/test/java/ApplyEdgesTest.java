import java.util.function.Consumer;
import java.util.function.Supplier;

/** The edges of promise 10, and of what the terms say of edits that are applied exactly. */
public final class ApplyEdgesTest {
    private static final Class<? extends RuntimeException> INDEX = Edge.INDEX;
    private static final Class<? extends RuntimeException> STATE = Edge.STATE;

    /** The sections have no entry, the keys 9, 0, 5, 1, 3, 7 and the keys 4, 8, 2. */
    private static final Supplier<ConfigDesk> OPEN = Desks.OPEN;

    public static void main(String[] args) {
        candidate();
        configurations();
        firstException();
        removalAtItsPlace();
        removalOfTheSameEntry();
        additionPlace();
        additionToFiveAndSix();
        additionOfAKey();
        moveFromItsPlace();
        moveToAPlace();
        settingOfAField();
        settingOfAGroup();
        settingInAGroup();
        behindThoseAhead();
        allOrNothing();
        inverses();
        Check.end("ApplyEdgesTest");
    }

    private static Supplier<ConfigDesk> edited(Supplier<ConfigDesk> desks, Consumer<ConfigDesk> edits) {
        return () -> {
            ConfigDesk desk = desks.get();
            edits.accept(desk);
            return desk;
        };
    }

    /** The edits from the version 1 to the candidate 1 are applied to the candidate 0, which has the section then. */
    private static void goes(int due, String what, Supplier<ConfigDesk> desks, int section, String keys) {
        ConfigDesk desk = desks.get();
        Check.is(due, what, () -> desk.apply(0, 11, 1, false));
        Check.compare(keys, what + ", then the section", Check.keys(desk, 0, section));
    }

    private static void goesBack(int due, String what, Supplier<ConfigDesk> desks, int section, String keys) {
        ConfigDesk desk = desks.get();
        Check.is(due, what, () -> desk.apply(0, 11, 1, true));
        Check.compare(keys, what + ", then the section", Check.keys(desk, 0, section));
    }

    private static void isRefused(String what, Supplier<ConfigDesk> desks) {
        Edge.refused(STATE, what, desks, desk -> desk.apply(0, 11, 1, false));
    }

    private static void isRefusedBack(String what, Supplier<ConfigDesk> desks) {
        Edge.refused(STATE, what, desks, desk -> desk.apply(0, 11, 1, true));
    }

    private static void candidate() {
        Edge.candidates("apply to the candidate", OPEN, 12, 12, (desk, n) -> desk.apply(n, 11, 10, false));
        Edge.candidates("apply nothing to the candidate", OPEN, 0, 0, (desk, n) -> desk.apply(n, 10, 10, true));
    }

    private static void configurations() {
        Supplier<ConfigDesk> desks = Desks.closing(1, OPEN);
        for (boolean isInverse : new boolean[] {false, true}) {
            Edge.configurations("apply from", desks, new long[] {0, 0, 0, 0}, (desk, n) -> {
                Desks.load(desk, 0, n == 10 ? 0 : 1);
                return desk.apply(0, n, n == 10 ? 10 : 11, isInverse);
            });
            Edge.configurations("apply to", desks, new long[] {0, 0, 12, 0},
                (desk, n) -> desk.apply(0, isInverse && n == 10 ? 10 : 11, isInverse && n == 10 ? 11 : n, isInverse));
        }
        Edge.answers(0, "apply, of 30 versions, the last one", Desks.versions(30), desk -> desk.apply(0, 39, 39, true));
        Edge.refused(INDEX, "from a 31st", Desks.versions(30), desk -> desk.apply(0, 40, 10, false));
        Edge.refused(INDEX, "to a 31st", Desks.versions(30), desk -> desk.apply(0, 10, 40, false));
        Edge.refused(INDEX, "to a 30th of 29", Desks.versions(29), desk -> desk.apply(0, 10, 39, false));
    }

    private static void firstException() {
        Supplier<ConfigDesk> closed = Desks.closing(0, OPEN);
        Edge.refused(STATE, "closed", closed, desk -> desk.apply(0, 11, 10, false));
        Edge.refused(STATE, "closed, no edits", closed, desk -> desk.apply(0, 11, 11, false));
        Edge.refused(INDEX, "closed, and from itself", closed, desk -> desk.apply(0, 0, 11, false));
        Edge.refused(INDEX, "closed, and to itself", closed, desk -> desk.apply(0, 11, 0, true));
        Edge.refused(INDEX, "closed, from no configuration", closed, desk -> desk.apply(0, 9, 11, false));
        Edge.refused(INDEX, "closed, to no configuration", closed, desk -> desk.apply(0, 11, 13, false));
        Edge.refused(INDEX, "no candidate, from one that is closed", closed, desk -> desk.apply(3, 0, 11, false));
        Edge.refused(INDEX, "open, from one that is closed", closed, desk -> desk.apply(1, 0, 11, false));
        Edge.refused(INDEX, "open, to one that is closed", closed, desk -> desk.apply(1, 10, 0, false));
        Edge.refused(STATE, "the edits add what is there", OPEN, desk -> desk.apply(1, 10, 11, false));
    }

    /** "for a removal this entry at this place" */
    private static void removalAtItsPlace() {
        Supplier<ConfigDesk> third = edited(OPEN, desk -> desk.remove(1, 1, 5));
        goes(1, "the third of six is removed", third, 1, "90137");
        goes(1, "the third of three", edited(third, desk -> {
            desk.remove(0, 1, 1);
            desk.remove(0, 1, 3);
            desk.remove(0, 1, 7);
        }), 1, "90");
        goes(1, "others are ahead of it, but as many", edited(third, desk -> {
            desk.remove(0, 1, 9);
            desk.add(0, 1, 2, 0);
        }), 1, "20137");
        isRefused("it is the second", edited(third, desk -> desk.move(0, 1, 5, 1)));
        isRefused("it is the fourth", edited(third, desk -> desk.move(0, 1, 5, 3)));
        isRefused("it is the second, as one less is ahead of it", edited(third, desk -> desk.remove(0, 1, 0)));
        isRefused("it is not there", edited(third, desk -> desk.remove(0, 1, 5)));
        isRefused("none is there", edited(third, desk -> Desks.load(desk, 0, 0)));
        goes(1, "the only one", edited(Desks.with("4", "", ""), desk -> desk.remove(1, 0, 4)), 0, "");
        Supplier<ConfigDesk> last = edited(OPEN, desk -> desk.remove(1, 1, 7));
        goes(1, "the last of six", last, 1, "90513");
        isRefused("it is the last of five", edited(last, desk -> desk.remove(0, 1, 3)));
    }

    private static void removalOfTheSameEntry() {
        Supplier<ConfigDesk> third = edited(OPEN, desk -> desk.remove(1, 1, 5));
        for (int value : new int[] {-1, 0, 54, 56, 99}) {
            isRefused("it has another value of the field 0", edited(third, desk -> desk.set(0, 1, 5, 0, value)));
        }
        for (int value : new int[] {0, 99}) {
            isRefused("it has a value of the field 1", edited(third, desk -> desk.set(0, 1, 5, 1, value)));
        }
        for (int group = -1; group < 2; group++) {
            int other = group;
            isRefused("it has another group", edited(third, desk -> desk.join(0, 1, 5, other)));
        }
        goes(1, "the group has another value", edited(third, desk -> desk.setGroup(0, 2, 1, 98)), 1, "90137");
    }

    /** "at least as many entries as the place tells" */
    private static void additionPlace() {
        goes(1, "add to no entry", edited(OPEN, desk -> desk.add(1, 0, 6, 0)), 0, "6");
        goes(1, "add to the start", edited(edited(OPEN, desk -> desk.add(1, 0, 6, 0)), desk -> desk.add(0, 0, 7, 0)),
            0, "67");
        Supplier<ConfigDesk> fourth = edited(OPEN, desk -> {
            desk.add(1, 2, 6, 3);
            desk.set(1, 2, 6, 1, 99);
            desk.join(1, 2, 6, 2);
        });
        goes(1, "just as many entries", fourth, 2, "4826");
        goes(1, "one more", edited(fourth, desk -> desk.add(0, 2, 7, 0)), 2, "74862");
        isRefused("one less", edited(fourth, desk -> desk.remove(0, 2, 8)));
        isRefused("none", edited(fourth, desk -> Desks.load(desk, 0, 0)));
        ConfigDesk desk = fourth.get();
        desk.apply(0, 11, 1, false);
        Check.is(1003, "it is added whole", () -> desk.own(0, 2, 3));
    }

    /** "but not 6" */
    private static void additionToFiveAndSix() {
        Supplier<ConfigDesk> first = edited(OPEN, desk -> desk.add(1, 0, 6, 0));
        Supplier<ConfigDesk> toFive = edited(first, desk -> {
            for (int key = 0; key < 5; key++) {
                desk.add(0, 0, key, key);
            }
        });
        goes(1, "there are 5", toFive, 0, "601234");
        isRefused("there are 6", edited(toFive, desk -> desk.add(0, 0, 9, 5)));
        Supplier<ConfigDesk> sixth = edited(Desks.with("90513", "", ""), desk -> desk.add(1, 0, 7, 5));
        goes(1, "there are 5, at the end", sixth, 0, "905137");
        isRefused("there are 4", edited(sixth, desk -> desk.remove(0, 0, 9)));
        isRefused("there are 6, for the sixth place", edited(sixth, desk -> desk.add(0, 0, 4, 2)));
    }

    /** "no entry with this key" */
    private static void additionOfAKey() {
        Supplier<ConfigDesk> added = edited(OPEN, desk -> desk.add(1, 2, 6, 1));
        goes(1, "the key is in another section", edited(added, desk -> desk.add(0, 0, 6, 0)), 2, "4682");
        for (int i = 0; i <= 3; i++) {
            int place = i;
            isRefused("the same entry is at " + place, edited(added, desk -> desk.add(0, 2, 6, place)));
        }
    }

    /** "for a move an entry with this key at the first place" */
    private static void moveFromItsPlace() {
        Supplier<ConfigDesk> moved = edited(OPEN, desk -> desk.move(1, 2, 2, 0));
        goes(1, "the third becomes the first", moved, 2, "248");
        goes(1, "whatever it has", edited(moved, desk -> {
            desk.set(0, 2, 2, 0, 0);
            desk.join(0, 2, 2, 0);
        }), 2, "248");
        goes(1, "whatever is ahead of it", edited(moved, desk -> desk.move(0, 2, 8, 0)), 2, "284");
        goes(1, "whatever is behind it", edited(moved, desk -> desk.add(0, 2, 9, 3)), 2, "2489");
        isRefused("it is the second", edited(moved, desk -> desk.move(0, 2, 2, 1)));
        isRefused("it is the first", edited(moved, desk -> desk.move(0, 2, 2, 0)));
        isRefused("it is the fourth", edited(moved, desk -> desk.add(0, 2, 9, 0)));
        isRefused("it is not there", edited(moved, desk -> desk.remove(0, 2, 2)));
        isRefused("another one is there", edited(moved, desk -> {
            desk.remove(0, 2, 2);
            desk.add(0, 2, 3, 2);
        }));
    }

    /** "and the second one there" */
    private static void moveToAPlace() {
        Supplier<ConfigDesk> moved = edited(OPEN, desk -> desk.move(1, 1, 7, 0));
        Supplier<ConfigDesk> there = edited(moved, desk -> desk.move(0, 1, 7, 0));
        goesBack(1, "to the last of six", there, 1, "905137");
        isRefusedBack("to the sixth of five", edited(there, desk -> desk.remove(0, 1, 0)));
        isRefusedBack("to the sixth of one", edited(there, desk -> {
            for (int i = 0; i < 5; i++) {
                desk.remove(0, 1, "90513".charAt(i) - '0');
            }
        }));
        Supplier<ConfigDesk> second = edited(OPEN, desk -> desk.move(1, 2, 8, 0));
        goes(1, "to the first", second, 2, "842");
        goesBack(1, "to the second of two", edited(second, desk -> {
            desk.move(0, 2, 8, 0);
            desk.remove(0, 2, 2);
        }), 2, "48");
        isRefusedBack("to the second of one", edited(second, desk -> {
            desk.remove(0, 2, 4);
            desk.remove(0, 2, 2);
        }));
    }

    /** "for a setting the entry, with the value (or group) before" */
    private static void settingOfAField() {
        int[][] changes = {{-1, 0}, {0, -1}, {0, 99}, {99, 0}, {99, -1}, {50, 51}};
        for (int[] change : changes) {
            for (int i = 0; i < 2; i++) {
                int field = i;
                Supplier<ConfigDesk> set = edited(OPEN, desk -> {
                    desk.set(2, 2, 8, field, change[0]);
                    desk.set(1, 2, 8, field, change[1]);
                });
                Edge.Call forward = desk -> desk.apply(0, 2, 1, false);
                Supplier<ConfigDesk> before = edited(set, desk -> desk.set(0, 2, 8, field, change[0]));
                Supplier<ConfigDesk> behind = edited(set, desk -> desk.set(0, 2, 8, field, change[1]));
                Edge.answers(1, "the value before", before, forward);
                Edge.answers(1, "the value behind, backwards", behind, desk -> desk.apply(0, 2, 1, true));
                Edge.refused(STATE, "the value behind", behind, forward);
                Edge.refused(STATE, "the value before, backwards", before, desk -> desk.apply(0, 2, 1, true));
                Edge.refused(STATE, "a third value", edited(set, desk -> desk.set(0, 2, 8, field, 7)), forward);
                Edge.refused(STATE, "no such entry", edited(before, desk -> desk.remove(0, 2, 8)), forward);
                Edge.answers(1, "at any place", edited(before, desk -> desk.move(0, 2, 8, 2)), forward);
                ConfigDesk desk = before.get();
                desk.apply(0, 2, 1, false);
                Check.is(1, "then it has the value behind", () -> Desks.same(desk, 0, 1));
            }
        }
    }

    private static void settingOfAGroup() {
        int[][] changes = {{-1, 0}, {0, -1}, {0, 2}, {2, 0}, {2, -1}, {1, 2}};
        for (int[] change : changes) {
            Supplier<ConfigDesk> set = edited(OPEN, desk -> {
                desk.join(2, 2, 8, change[0]);
                desk.join(1, 2, 8, change[1]);
            });
            Supplier<ConfigDesk> before = edited(set, desk -> desk.join(0, 2, 8, change[0]));
            Supplier<ConfigDesk> behind = edited(set, desk -> desk.join(0, 2, 8, change[1]));
            Edge.answers(1, "the group before", before, desk -> desk.apply(0, 2, 1, false));
            Edge.answers(1, "the group behind, backwards", behind, desk -> desk.apply(0, 2, 1, true));
            Edge.refused(STATE, "the group behind", behind, desk -> desk.apply(0, 2, 1, false));
            Edge.refused(STATE, "the group before, backwards", before, desk -> desk.apply(0, 2, 1, true));
            Edge.refused(STATE, "no such entry", edited(before, desk -> desk.remove(0, 2, 8)),
                desk -> desk.apply(0, 2, 1, false));
            ConfigDesk desk = before.get();
            desk.apply(0, 2, 1, false);
            Check.is(1, "then it has the group behind", () -> Desks.same(desk, 0, 1));
        }
    }

    private static void settingInAGroup() {
        int[][] changes = {{-1, 0}, {0, -1}, {0, 99}, {99, 0}, {99, -1}};
        for (int[] change : changes) {
            for (int i = 0; i < 6; i++) {
                int group = i / 2;
                int field = i % 2;
                Supplier<ConfigDesk> set = edited(OPEN, desk -> {
                    desk.setGroup(2, group, field, change[0]);
                    desk.setGroup(1, group, field, change[1]);
                });
                Supplier<ConfigDesk> before = edited(set, desk -> desk.setGroup(0, group, field, change[0]));
                Supplier<ConfigDesk> behind = edited(set, desk -> desk.setGroup(0, group, field, change[1]));
                Edge.answers(1, "the group's value before", before, desk -> desk.apply(0, 2, 1, false));
                Edge.answers(1, "the group's value behind, backwards", behind, desk -> desk.apply(0, 2, 1, true));
                Edge.refused(STATE, "the group's value behind", behind, desk -> desk.apply(0, 2, 1, false));
                Edge.refused(STATE, "the group's value before, backwards", before, desk -> desk.apply(0, 2, 1, true));
                ConfigDesk desk = before.get();
                desk.apply(0, 2, 1, false);
                Check.is(1, "then it has the value behind", () -> Desks.same(desk, 0, 1));
            }
        }
    }

    /** "applied exactly behind those ahead of it" */
    private static void behindThoseAhead() {
        Supplier<ConfigDesk> exchanged = edited(OPEN, desk -> {
            desk.remove(1, 1, 9);
            desk.add(1, 1, 2, 5);
        });
        goes(2, "a removal from six makes place for an addition", exchanged, 1, "051372");
        goesBack(2, "and back", edited(exchanged, desk -> desk.apply(0, 11, 1, false)), 1, "905137");
        goes(6, "six additions", edited(OPEN, desk -> addSix(desk, 1, 0)), 0, "123456");
        isRefused("an addition has taken the last place", edited(edited(OPEN, desk -> addSix(desk, 1, 0)),
            desk -> desk.add(0, 0, 9, 0)));
        goes(3, "a move of what was added ahead of it", edited(OPEN, desk -> {
            desk.move(1, 2, 2, 0);
            desk.add(1, 2, 9, 0);
            desk.set(1, 2, 4, 1, 3);
        }), 2, "9248");
        goesBack(6, "six are removed again", edited(edited(OPEN, desk -> addSix(desk, 1, 0)),
            desk -> addSix(desk, 0, 0)), 0, "");
    }

    private static void addSix(ConfigDesk desk, int candidate, int section) {
        for (int key = 1; key <= 6; key++) {
            desk.add(candidate, section, key, key - 1);
        }
    }

    /** "A call that throws an exception changes nothing": neither do the edits ahead of one that does not fit. */
    private static void allOrNothing() {
        Supplier<ConfigDesk> many = edited(OPEN, desk -> {
            desk.add(1, 0, 6, 0);
            desk.remove(1, 1, 7);
            desk.move(1, 1, 0, 0);
            desk.set(1, 2, 8, 0, 3);
            desk.join(1, 2, 8, 2);
            desk.setGroup(1, 0, 0, 4);
            desk.setGroup(1, 2, 1, 5);
        });
        goes(7, "all fit", many, 1, "09513");
        isRefused("the first does not", edited(many, desk -> desk.add(0, 0, 6, 0)));
        isRefused("the second does not", edited(many, desk -> desk.move(0, 1, 7, 4)));
        isRefused("the third does not", edited(many, desk -> desk.move(0, 1, 0, 2)));
        isRefused("the fourth does not", edited(many, desk -> desk.set(0, 2, 8, 0, 3)));
        isRefused("the fifth does not", edited(many, desk -> desk.join(0, 2, 8, 1)));
        isRefused("the sixth does not", edited(many, desk -> desk.setGroup(0, 0, 0, 3)));
        isRefused("the last does not", edited(many, desk -> desk.setGroup(0, 2, 1, 5)));
        Supplier<ConfigDesk> done = edited(many, desk -> desk.apply(0, 11, 1, false));
        goesBack(7, "all fit backwards", done, 1, "905137");
        isRefusedBack("the last does not fit, backwards", edited(done, desk -> desk.add(0, 0, 7, 0)));
        isRefusedBack("the first does not fit, backwards", edited(done, desk -> desk.setGroup(0, 2, 1, 99)));
    }

    /** "additions and removals change parts, moves go back, settings exchange what was before and behind" */
    private static void inverses() {
        String[] sections = {"", "4", "48", "482", "284", "90513", "905137", "731509", "264810"};
        for (String from : sections) {
            for (String to : sections) {
                ConfigDesk desk = Desks.with(from, to, from).get();
                Desks.load(desk, 1, 0);
                for (int section = 0; section < 3; section++) {
                    String keys = section == 1 ? from : to;
                    for (int i = 0; i < keys.length(); i++) {
                        desk.add(1, section, keys.charAt(i) - '0', i);
                    }
                }
                String what = from + " to " + to;
                int count = desk.edits(11, 1);
                Check.is(count, what, () -> desk.apply(0, 11, 1, false));
                Check.is(1, what + " leads there", () -> Desks.same(desk, 0, 1));
                Check.is(count, what + " backwards", () -> desk.apply(0, 11, 1, true));
                Check.is(1, what + " leads back", () -> Desks.same(desk, 0, 11));
                Check.is(desk.edits(1, 11), "the other way", () -> desk.apply(1, 1, 11, false));
                Check.is(1, "it leads there", () -> Desks.same(desk, 1, 11));
            }
        }
    }
}
