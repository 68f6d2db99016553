import java.util.function.Supplier;

/** The edges that the promises 2 to 9 name; each sentence that names one has a function, or lines, of its own. */
public final class CandidateEdgesTest {
    private static final Class<? extends RuntimeException> INDEX = Edge.INDEX;
    private static final Class<? extends RuntimeException> ARGUMENT = Edge.ARGUMENT;
    private static final Class<? extends RuntimeException> STATE = Edge.STATE;

    /** The sections have no entry, the keys 9, 0, 5, 1, 3, 7 and the keys 4, 8, 2. */
    private static final Supplier<ConfigDesk> OPEN = Desks.OPEN;
    private static final Supplier<ConfigDesk> CLOSED = Desks.closing(0, OPEN);
    private static final Supplier<ConfigDesk> FRESH = ConfigDesk::new;

    public static void main(String[] args) {
        open();
        openGivesTheRunningVersion();
        add();
        addPlace();
        addCountsToSix();
        addState();
        addFirstException();
        remove();
        removeState();
        move();
        movePlace();
        moveState();
        set();
        setState();
        join();
        joinState();
        setGroup();
        setGroupState();
        load();
        loadKeepsTheBase();
        Check.end("CandidateEdgesTest");
    }

    private static void open() {
        Edge.candidates("open", OPEN, 1, 1, (desk, candidate) -> desk.open(candidate));
        Edge.candidates("open, closed ones", FRESH, 0, 0, (desk, candidate) -> desk.open(candidate));
    }

    /** "its configuration is that of the running version, which is its base" */
    private static void openGivesTheRunningVersion() {
        Edge.answers(27, "open with 28 versions", Desks.versions(28), desk -> desk.open(2));
        Edge.answers(28, "open with 29 versions", Desks.versions(29), desk -> desk.open(2));
        Edge.answers(29, "open with 30 versions", Desks.versions(30), desk -> desk.open(2));
        ConfigDesk desk = Desks.waiting(3).get();
        Check.is(2, "open while a commit waits", () -> desk.open(0));
        Check.is(1, "it has what waits", () -> desk.size(0, 0));
        desk.advance(3);
        Check.is(1, "it keeps that when the commit is undone", () -> desk.size(0, 0));
        desk.remove(0, 0, 6);
        Check.noState("its base stays too: there is nothing to remove", () -> desk.commit(0, 0));
        Check.is(3, "open anew behind that", () -> desk.open(0));
        Check.is(1, "it has what runs", () -> Desks.same(desk, 0, 13));
        Check.is(0, "it has no entry", () -> desk.size(0, 0));
    }

    private static void add() {
        Edge.candidates("add to the candidate", OPEN, 4, 4, (desk, n) -> desk.add(n, 2, 5, 0));
        Edge.range(INDEX, "add to the section", Desks.with("5", "", "42"), 0, 2, 2, 3,
            (desk, n) -> desk.add(0, n, 7, 0));
        Edge.range(INDEX, "add the key", OPEN, 0, 1, 9, 1, (desk, n) -> desk.add(0, 0, n, 0));
    }

    /** "0 to as many as there are entries" */
    private static void addPlace() {
        Edge.range(ARGUMENT, "add to no entry at", OPEN, 0, 1, 0, 1, (desk, n) -> desk.add(0, 0, 6, n));
        Edge.range(ARGUMENT, "add to one at", Desks.with("4", "", ""), 0, 2, 1, 2, (desk, n) -> desk.add(0, 0, 6, n));
        Edge.range(ARGUMENT, "add to three at", OPEN, 0, 4, 3, 4, (desk, n) -> desk.add(0, 2, 6, n));
        Edge.range(ARGUMENT, "add to five at", Desks.with("", "", "90517"), 0, 6, 5, 6,
            (desk, n) -> desk.add(1, 2, 6, n));
        for (int place = 0; place <= 5; place++) {
            ConfigDesk desk = Desks.with("90517", "", "").get();
            desk.add(2, 0, 8, place);
            Check.compare("90517".substring(0, place) + "8" + "90517".substring(place), "add to five at " + place,
                Check.keys(desk, 2, 0));
            int at = place;
            Check.is(0, "without values and group", () -> desk.own(2, 0, at));
            Check.is(1000000, "the first of the others keeps its own", () -> desk.own(2, 0, at == 0 ? 1 : 0));
            Check.is(780002, "the last of the others keeps its own", () -> desk.own(2, 0, at == 5 ? 4 : 5));
        }
    }

    private static void addCountsToSix() {
        ConfigDesk desk = FRESH.get();
        desk.open(2);
        for (int i = 1; i <= 6; i++) {
            int count = i;
            Check.is(count, "add the entry " + count, () -> desk.add(2, 2, count, 0));
        }
        Check.compare("654321", "the six", Check.keys(desk, 2, 2));
        Check.noState("a seventh", () -> desk.add(2, 2, 0, 0));
        desk.remove(2, 2, 3);
        Check.is(6, "a sixth again", () -> desk.add(2, 2, 0, 5));
        Check.compare("654210", "the six", Check.keys(desk, 2, 2));
        Check.is(1, "another section has places", () -> desk.add(2, 1, 0, 0));
    }

    /** "if the candidate is not open, there is an entry with the key, or there are 6" */
    private static void addState() {
        Edge.refused(STATE, "add where none is open", FRESH, desk -> desk.add(0, 0, 0, 0));
        Edge.refused(STATE, "add to a closed one", CLOSED, desk -> desk.add(0, 2, 5, 0));
        for (int place = 0; place <= 3; place++) {
            int at = place;
            Edge.refused(STATE, "add the first key again", OPEN, desk -> desk.add(0, 2, 4, at));
            Edge.refused(STATE, "add the last key again", OPEN, desk -> desk.add(0, 2, 2, at));
        }
        Edge.refused(STATE, "add to six", OPEN, desk -> desk.add(0, 1, 2, 0));
        Edge.refused(STATE, "add to six at the end", OPEN, desk -> desk.add(0, 1, 2, 6));
        Edge.refused(STATE, "add a key of the six", OPEN, desk -> desk.add(0, 1, 7, 5));
        Edge.answers(4, "add a key of another section", OPEN, desk -> desk.add(0, 2, 9, 3));
    }

    private static void addFirstException() {
        for (int place : new int[] {-1, 7}) {
            Edge.refused(INDEX, "no candidate, no place", OPEN, desk -> desk.add(3, 2, 5, place));
            Edge.refused(INDEX, "no section, no place", OPEN, desk -> desk.add(0, 3, 5, place));
            Edge.refused(INDEX, "no key, no place", OPEN, desk -> desk.add(0, 2, 10, place));
            Edge.refused(INDEX, "closed, no section, no place", CLOSED, desk -> desk.add(0, -1, 5, place));
            Edge.refused(INDEX, "closed, no key, no place", CLOSED, desk -> desk.add(0, 2, -1, place));
            Edge.refused(INDEX, "six, no key, no place", OPEN, desk -> desk.add(0, 1, 10, place));
            Edge.refused(STATE, "closed, no place", CLOSED, desk -> desk.add(0, 2, 5, place));
            Edge.refused(STATE, "the key is there, no place", OPEN, desk -> desk.add(0, 2, 8, place));
            Edge.refused(STATE, "six, no place", OPEN, desk -> desk.add(0, 1, 2, place));
        }
        Edge.refused(INDEX, "closed, no section", CLOSED, desk -> desk.add(0, 3, 5, 0));
        Edge.refused(INDEX, "closed, no key", CLOSED, desk -> desk.add(0, 2, 10, 0));
        Edge.refused(INDEX, "six, no key", OPEN, desk -> desk.add(0, 1, -1, 0));
    }

    private static void remove() {
        Supplier<ConfigDesk> desks = Desks.with("94", "", "304");
        Edge.candidates("remove from the candidate", OPEN, 2, 2, (desk, n) -> desk.remove(n, 1, 5));
        Edge.range(INDEX, "remove from the section", desks, 0, 1, 2, 2, (desk, n) -> desk.remove(0, n, 4));
        Edge.range(INDEX, "remove the key", OPEN, 0, 1, 9, 0, (desk, n) -> desk.remove(0, 1, n));
        for (int i = 0; i < 6; i++) {
            int place = i;
            ConfigDesk desk = OPEN.get();
            Check.is(place, "the place of one of six", () -> desk.remove(1, 1, "905137".charAt(place) - '0'));
            Check.compare("905137".substring(0, place) + "905137".substring(place + 1), "the five that are left",
                Check.keys(desk, 1, 1));
        }
    }

    /** "if the candidate is not open, or there is no entry with the key", and what comes first. */
    private static void removeState() {
        Edge.refused(STATE, "remove from a closed one", CLOSED, desk -> desk.remove(0, 2, 4));
        Edge.refused(STATE, "remove from no entry", OPEN, desk -> desk.remove(0, 0, 4));
        Edge.refused(STATE, "remove what is not among three", OPEN, desk -> desk.remove(0, 2, 0));
        Edge.refused(STATE, "remove what is not among six", OPEN, desk -> desk.remove(0, 1, 4));
        Edge.refused(INDEX, "closed, no section", CLOSED, desk -> desk.remove(0, 3, 4));
        Edge.refused(INDEX, "closed, no key", CLOSED, desk -> desk.remove(0, 2, 10));
        Edge.refused(INDEX, "no entry, no key", OPEN, desk -> desk.remove(0, 0, -1));
        ConfigDesk desk = OPEN.get();
        desk.remove(0, 2, 2);
        Check.noState("remove the last one twice", () -> desk.remove(0, 2, 2));
        desk.remove(0, 2, 4);
        desk.remove(0, 2, 8);
        Check.noState("remove the only one twice", () -> desk.remove(0, 2, 8));
    }

    private static void move() {
        Supplier<ConfigDesk> desks = Desks.with("94", "", "304");
        Edge.candidates("move in the candidate", OPEN, 2, 2, (desk, n) -> desk.move(n, 1, 5, 0));
        Edge.range(INDEX, "move in the section", desks, 0, 1, 2, 2, (desk, n) -> desk.move(0, n, 4, 0));
        Edge.range(INDEX, "move the key", OPEN, 0, 1, 9, 0, (desk, n) -> desk.move(0, 1, n, 3));
    }

    /** "the place that it has then, from 0, below the number of entries" */
    private static void movePlace() {
        Edge.range(ARGUMENT, "move the only one to", Desks.with("", "3", ""), 0, 0, 0, 0,
            (desk, n) -> desk.move(0, 1, 3, n));
        Edge.range(ARGUMENT, "move one of three to", OPEN, 0, 1, 2, 1, (desk, n) -> desk.move(0, 2, 8, n));
        Edge.range(ARGUMENT, "move the first of six to", OPEN, 0, 0, 5, 0, (desk, n) -> desk.move(2, 1, 9, n));
        Edge.range(ARGUMENT, "move the last of six to", OPEN, 0, 5, 5, 5, (desk, n) -> desk.move(2, 1, 7, n));
        for (int from = 0; from < 6; from++) {
            for (int to = 0; to < 6; to++) {
                ConfigDesk desk = OPEN.get();
                int key = "905137".charAt(from) - '0';
                String others = "905137".substring(0, from) + "905137".substring(from + 1);
                desk.move(1, 1, key, to);
                Check.compare(others.substring(0, to) + key + others.substring(to), from + " moved to " + to,
                    Check.keys(desk, 1, 1));
                int place = to;
                Check.is(11 * key, "its value goes along", () -> desk.shown(1, 1, place, 0));
            }
        }
    }

    private static void moveState() {
        Edge.refused(STATE, "move in a closed one", CLOSED, desk -> desk.move(0, 2, 4, 1));
        Edge.refused(STATE, "move in no entry", OPEN, desk -> desk.move(0, 0, 4, 0));
        Edge.refused(STATE, "move what is not among six", OPEN, desk -> desk.move(0, 1, 4, 1));
        for (int place : new int[] {-1, 6}) {
            Edge.refused(STATE, "closed, no place", CLOSED, desk -> desk.move(0, 2, 4, place));
            Edge.refused(STATE, "no entry with the key, no place", OPEN, desk -> desk.move(0, 2, 5, place));
            Edge.refused(INDEX, "no candidate, no place", OPEN, desk -> desk.move(-1, 2, 4, place));
            Edge.refused(INDEX, "no section, no place", OPEN, desk -> desk.move(0, 3, 4, place));
            Edge.refused(INDEX, "no key, no place", OPEN, desk -> desk.move(0, 2, 10, place));
            Edge.refused(INDEX, "closed, no section, no place", CLOSED, desk -> desk.move(0, -1, 4, place));
        }
        Edge.refused(STATE, "no entry, and so no place", OPEN, desk -> desk.move(0, 0, 4, 0));
        Edge.refused(INDEX, "closed, no section", CLOSED, desk -> desk.move(0, 3, 4, 0));
        Edge.refused(INDEX, "closed, no key", CLOSED, desk -> desk.move(0, 2, -1, 0));
    }

    private static void set() {
        Supplier<ConfigDesk> desks = Desks.with("94", "", "304");
        Edge.candidates("set in the candidate", OPEN, 55, 55, (desk, n) -> desk.set(n, 1, 5, 0, 1));
        Edge.range(INDEX, "set in the section", desks, 0, 44, 2, 44, (desk, n) -> desk.set(0, n, 4, 0, 1));
        Edge.range(INDEX, "set the key", OPEN, 0, 0, 9, 99, (desk, n) -> desk.set(0, 1, n, 0, 1));
        Edge.range(INDEX, "set the field", OPEN, 0, 77, 1, -1, (desk, n) -> desk.set(0, 1, 7, n, 1));
        Edge.range(ARGUMENT, "set the field 0 to", OPEN, -1, 77, 99, 77, (desk, n) -> desk.set(0, 1, 7, 0, n));
        Edge.range(ARGUMENT, "set the field 1 to", OPEN, -1, -1, 99, -1, (desk, n) -> desk.set(0, 1, 7, 1, n));
        for (int field = 0; field < 2; field++) {
            for (int value : new int[] {-1, 0, 1, 98, 99}) {
                ConfigDesk desk = OPEN.get();
                int due = (field == 0 ? 10000 * (value + 1) : 780000 + 10 * (value + 1)) + 2;
                desk.set(0, 1, 7, field, value);
                Check.is(due, "the field " + field + " set to " + value, () -> desk.own(0, 1, 5));
                Check.is(780002, "the version stays", () -> desk.own(11, 1, 5));
            }
        }
    }

    private static void setState() {
        Edge.refused(STATE, "set in a closed one", CLOSED, desk -> desk.set(0, 2, 4, 0, 5));
        Edge.refused(STATE, "set in no entry", OPEN, desk -> desk.set(0, 0, 4, 0, 5));
        Edge.refused(STATE, "set what is not among six", OPEN, desk -> desk.set(0, 1, 4, 1, -1));
        for (int value : new int[] {-2, 100}) {
            Edge.refused(ARGUMENT, "closed, no value", CLOSED, desk -> desk.set(0, 2, 4, 0, value));
            Edge.refused(ARGUMENT, "no entry with the key, no value", OPEN, desk -> desk.set(0, 2, 5, 0, value));
            Edge.refused(INDEX, "no candidate, no value", OPEN, desk -> desk.set(3, 2, 4, 0, value));
            Edge.refused(INDEX, "no section, no value", OPEN, desk -> desk.set(0, 3, 4, 0, value));
            Edge.refused(INDEX, "no key, no value", OPEN, desk -> desk.set(0, 2, 10, 0, value));
            Edge.refused(INDEX, "no field, no value", OPEN, desk -> desk.set(0, 2, 4, 2, value));
            Edge.refused(INDEX, "closed, no field, no value", CLOSED, desk -> desk.set(0, 2, 4, -1, value));
        }
        Edge.refused(INDEX, "closed, no section", CLOSED, desk -> desk.set(0, 3, 4, 0, 5));
        Edge.refused(INDEX, "closed, no key", CLOSED, desk -> desk.set(0, 2, 10, 0, 5));
        Edge.refused(INDEX, "closed, no field", CLOSED, desk -> desk.set(0, 2, 4, 2, 5));
        Edge.refused(INDEX, "no entry, no field", OPEN, desk -> desk.set(0, 0, 4, 2, 5));
    }

    private static void join() {
        Supplier<ConfigDesk> desks = Desks.with("94", "", "304");
        Edge.candidates("join in the candidate", OPEN, 2, 2, (desk, n) -> desk.join(n, 1, 5, 0));
        Edge.range(INDEX, "join in the section", desks, 0, 1, 2, 1, (desk, n) -> desk.join(0, n, 4, 0));
        Edge.range(INDEX, "join by the key", OPEN, 0, 0, 9, -1, (desk, n) -> desk.join(0, 1, n, 1));
        Edge.range(ARGUMENT, "join the group", OPEN, -1, 1, 2, 1, (desk, n) -> desk.join(0, 1, 7, n));
        Edge.range(ARGUMENT, "one without group joins", OPEN, -1, -1, 2, -1, (desk, n) -> desk.join(0, 1, 9, n));
        for (int i = -1; i <= 2; i++) {
            int group = i;
            ConfigDesk desk = OPEN.get();
            desk.join(0, 1, 7, group);
            Check.is(780001 + group, "it is in the group " + group, () -> desk.own(0, 1, 5));
            Check.is(new int[] {-1, 0, 50, 99}[group + 1], "it shows the group's", () -> desk.shown(0, 1, 5, 1));
        }
    }

    private static void joinState() {
        Edge.refused(STATE, "join in a closed one", CLOSED, desk -> desk.join(0, 2, 4, 0));
        Edge.refused(STATE, "join in no entry", OPEN, desk -> desk.join(0, 0, 4, 0));
        Edge.refused(STATE, "join by what is not among six", OPEN, desk -> desk.join(0, 1, 4, -1));
        for (int group : new int[] {-2, 3}) {
            Edge.refused(ARGUMENT, "closed, no group", CLOSED, desk -> desk.join(0, 2, 4, group));
            Edge.refused(ARGUMENT, "no entry with the key, no group", OPEN, desk -> desk.join(0, 2, 5, group));
            Edge.refused(INDEX, "no candidate, no group", OPEN, desk -> desk.join(3, 2, 4, group));
            Edge.refused(INDEX, "no section, no group", OPEN, desk -> desk.join(0, 3, 4, group));
            Edge.refused(INDEX, "no key, no group", OPEN, desk -> desk.join(0, 2, 10, group));
            Edge.refused(INDEX, "closed, no key, no group", CLOSED, desk -> desk.join(0, 2, -1, group));
        }
        Edge.refused(INDEX, "closed, no section", CLOSED, desk -> desk.join(0, 3, 4, 0));
        Edge.refused(INDEX, "closed, no key", CLOSED, desk -> desk.join(0, 2, 10, 0));
    }

    private static void setGroup() {
        Edge.candidates("setGroup in the candidate", OPEN, 50, 50, (desk, n) -> desk.setGroup(n, 1, 1, 1));
        Edge.range(INDEX, "setGroup of the group", OPEN, 0, 0, 2, 99, (desk, n) -> desk.setGroup(0, n, 1, 1));
        Edge.range(INDEX, "setGroup of the field", OPEN, 0, -1, 1, 99, (desk, n) -> desk.setGroup(0, 2, n, 1));
        Edge.range(ARGUMENT, "setGroup to", OPEN, -1, 50, 99, 50, (desk, n) -> desk.setGroup(0, 1, 1, n));
        for (int i = 0; i < 6; i++) {
            int group = i / 2;
            int field = i % 2;
            for (int value : new int[] {-1, 0, 1, 98, 99}) {
                ConfigDesk desk = OPEN.get();
                desk.setGroup(0, group, field, value);
                Check.is(value, "the value before, then", () -> desk.setGroup(0, group, field, value));
                Check.is(value != desk.setGroup(1, group, field, 3) ? 1 : 0, "the group's field " + field + " as it is",
                    () -> desk.edits(11, 0));
            }
        }
    }

    private static void setGroupState() {
        Edge.refused(STATE, "setGroup in a closed one", CLOSED, desk -> desk.setGroup(0, 0, 0, 5));
        Edge.refused(STATE, "setGroup where none is open", FRESH, desk -> desk.setGroup(2, 2, 1, -1));
        for (int value : new int[] {-2, 100}) {
            Edge.refused(ARGUMENT, "closed, no value", CLOSED, desk -> desk.setGroup(0, 0, 0, value));
            Edge.refused(INDEX, "no candidate, no value", OPEN, desk -> desk.setGroup(3, 0, 0, value));
            Edge.refused(INDEX, "no group, no value", OPEN, desk -> desk.setGroup(0, 3, 0, value));
            Edge.refused(INDEX, "no field, no value", OPEN, desk -> desk.setGroup(0, 0, 2, value));
            Edge.refused(INDEX, "closed, no group, no value", CLOSED, desk -> desk.setGroup(0, -1, 0, value));
        }
        Edge.refused(INDEX, "closed, no group", CLOSED, desk -> desk.setGroup(0, 3, 0, 5));
        Edge.refused(INDEX, "closed, no field", CLOSED, desk -> desk.setGroup(0, 0, 2, 5));
    }

    /** "version: a version" */
    private static void load() {
        Edge.candidates("load into the candidate", OPEN, 1, 1, (desk, n) -> Desks.load(desk, n, 0));
        Edge.range(INDEX, "load, of one version, the version", () -> {
            ConfigDesk desk = new ConfigDesk();
            desk.open(0);
            return desk;
        }, 0, 1, 0, 1, (desk, n) -> Desks.load(desk, 0, n));
        Edge.range(INDEX, "load the version", OPEN, 0, 1, 1, 1, (desk, n) -> Desks.load(desk, 0, n));
        Edge.range(INDEX, "load, of 29 versions, the version", Desks.versions(29), 0, 1, 28, 1,
            (desk, n) -> Desks.load(desk, 0, n));
        Edge.range(INDEX, "load, of 30 versions, the version", Desks.versions(30), 0, 1, 29, 1,
            (desk, n) -> Desks.load(desk, 0, n));
        Edge.refused(INDEX, "10 is no version", OPEN, desk -> Desks.load(desk, 0, 10));
        Edge.refused(STATE, "load into a closed one", CLOSED, desk -> Desks.load(desk, 0, 1));
        Edge.refused(INDEX, "closed, just no version", CLOSED, desk -> Desks.load(desk, 0, 3));
        Edge.refused(INDEX, "closed, no version", CLOSED, desk -> Desks.load(desk, 0, -1));
        Edge.refused(INDEX, "no candidate, no version", OPEN, desk -> Desks.load(desk, 3, 3));
    }

    private static void loadKeepsTheBase() {
        ConfigDesk desk = Desks.waiting(1).get();
        Desks.load(desk, 0, 2);
        Check.is(1, "load what waits", () -> Desks.same(desk, 0, 12));
        desk.advance(1);
        Check.is(1, "it is as that, when that is undone", () -> Desks.same(desk, 0, 12));
        Check.is(4, "its base has stayed, so that the edits come again", () -> desk.commit(0, 0));
        Check.is(1, "they have come", () -> Desks.same(desk, 14, 12));
        Desks.load(desk, 1, 0);
        Check.is(1, "load nothing", () -> Desks.same(desk, 1, 10));
        Check.is(0, "no entries", () -> desk.size(1, 1));
        Check.is(-1, "no values in groups", () -> desk.setGroup(1, 1, 1, -1));
        Desks.load(desk, 1, 1);
        Check.is(1, "load it all again", () -> Desks.same(desk, 1, 11));
        Check.is(50, "with the values in groups", () -> desk.setGroup(1, 1, 1, 50));
        desk.set(1, 1, 9, 0, 1);
        Check.is(1000000, "the version is not edited", () -> desk.own(11, 1, 0));
    }
}
