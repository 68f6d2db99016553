import java.util.List;
import java.util.function.Supplier;

/** The edges that the promises 11 and 12 name. */
public final class RuleEdgesTest {
    private static final Class<? extends RuntimeException> INDEX = Edge.INDEX;
    private static final Class<? extends RuntimeException> ARGUMENT = Edge.ARGUMENT;
    private static final Class<? extends RuntimeException> STATE = Edge.STATE;

    /** The sections have no entry, the keys 9, 0, 5, 1, 3, 7 and the keys 4, 8, 2. */
    private static final Supplier<ConfigDesk> OPEN = Desks.OPEN;

    public static void main(String[] args) {
        ranges();
        eightRules();
        firstException();
        numberThatDoesNotMatter();
        sectionWithoutEntries();
        faultsOf();
        faultsFromNoneToEight();
        noEntryKeepsAll();
        eachShowsAValue();
        noneAbove();
        keysOfASection();
        keysFromLowestToHighest();
        noTwoAlike();
        Check.end("RuleEdgesTest");
    }

    private static void ranges() {
        Edge.range(ARGUMENT, "rule of the kind", OPEN, 0, 0, 3, 0, (desk, n) -> desk.rule(n, 1, 0, 0));
        Edge.range(INDEX, "rule for the section", OPEN, 0, 0, 2, 0, (desk, n) -> desk.rule(0, n, 0, 0));
        Edge.range(INDEX, "rule for the field", OPEN, 0, 0, 1, 0, (desk, n) -> desk.rule(0, 1, n, 0));
        for (int i = 0; i < 4; i++) {
            int kind = i;
            Edge.range(ARGUMENT, "rule of the kind " + kind + " with", OPEN, 0, 0, 99, 0,
                (desk, n) -> desk.rule(kind, 1, 0, n));
        }
    }

    /** "if there are 8 rules" */
    private static void eightRules() {
        for (int i = 0; i < 8; i++) {
            int count = i;
            Edge.answers(count, "a rule behind " + count, Desks.rules(count, OPEN), desk -> desk.rule(3, 2, 1, 99));
        }
        for (int i = 0; i < 4; i++) {
            int kind = i;
            Edge.refused(STATE, "a ninth rule", Desks.rules(8, OPEN), desk -> desk.rule(kind, 1, 1, 0));
        }
        ConfigDesk desk = Desks.rules(7, OPEN).get();
        Check.is(0, "seven rules that are kept", () -> desk.faults(0));
        desk.rule(0, 1, 1, 0);
        Check.is(1, "the eighth is not", () -> desk.faults(0));
        Check.noState("a ninth", () -> desk.rule(0, 1, 1, 0));
        Check.is(1, "it does not count", () -> desk.faults(0));
    }

    private static void firstException() {
        for (Supplier<ConfigDesk> desks : List.of(OPEN, Desks.rules(8, OPEN))) {
            for (int wrong : new int[] {-1, 4}) {
                Edge.refused(INDEX, "no section, no kind", desks, desk -> desk.rule(wrong, 3, 0, 0));
                Edge.refused(INDEX, "no field, no kind", desks, desk -> desk.rule(wrong, 0, 2, 0));
                Edge.refused(ARGUMENT, "no kind", desks, desk -> desk.rule(wrong, 0, 0, 0));
                Edge.refused(ARGUMENT, "no kind, no number", desks, desk -> desk.rule(wrong, 0, 0, 100));
            }
            for (int wrong : new int[] {-1, 100}) {
                Edge.refused(INDEX, "no section, no number", desks, desk -> desk.rule(0, -1, 0, wrong));
                Edge.refused(INDEX, "no field, no number", desks, desk -> desk.rule(2, 0, -1, wrong));
                Edge.refused(ARGUMENT, "no number", desks, desk -> desk.rule(3, 0, 0, wrong));
            }
            Edge.refused(INDEX, "no section", desks, desk -> desk.rule(0, 3, 0, 0));
            Edge.refused(INDEX, "no field", desks, desk -> desk.rule(0, 0, 2, 0));
        }
    }

    /** "of the kinds 0 and 3 it does not matter, in this range" */
    private static void numberThatDoesNotMatter() {
        for (int number : new int[] {0, 1, 2, 3, 98, 99}) {
            ConfigDesk desk = OPEN.get();
            desk.rule(0, 2, 0, number);
            Check.is(0, "each shows a value", () -> desk.faults(0));
            desk.rule(3, 2, 0, number);
            Check.is(0, "no two alike", () -> desk.faults(0));
            desk.set(0, 2, 8, 0, 44);
            Check.is(1, "two alike", () -> desk.faults(0));
            desk.set(0, 2, 8, 0, -1);
            Check.is(1, "one shows none", () -> desk.faults(0));
        }
    }

    /** "for the kind 2, a number above 2 means a section without entries" */
    private static void sectionWithoutEntries() {
        for (int number = 0; number < 100; number++) {
            ConfigDesk desk = Desks.with("0", "0", "0").get();
            desk.rule(2, 0, 0, number);
            Check.is(number > 2 ? 1 : 0, "0 as a key of the section " + number, () -> desk.faults(0));
            desk.set(0, 0, 0, 0, -1);
            Check.is(0, "no value as a key of the section " + number, () -> desk.faults(0));
        }
    }

    private static void faultsOf() {
        Supplier<ConfigDesk> desks = Desks.closing(1, OPEN);
        Edge.configurations("faults, where there are no rules, of", desks, new long[] {0, 0, 0, 0},
            (desk, n) -> desk.faults(n));
        Edge.configurations("faults of", () -> {
            ConfigDesk desk = desks.get();
            desk.rule(0, 2, 0, 0);
            desk.rule(1, 2, 0, 87);
            desk.set(2, 2, 4, 0, -1);
            return desk;
        }, new long[] {1, 2, 0, 1}, (desk, n) -> desk.faults(n));
        Edge.answers(0, "faults of the last of 30 versions", Desks.versions(30), desk -> desk.faults(39));
        Edge.refused(INDEX, "faults of a 31st version", Desks.versions(30), desk -> desk.faults(40));
        Edge.refused(INDEX, "faults of a 30th version of 29", Desks.versions(29), desk -> desk.faults(39));
    }

    private static void faultsFromNoneToEight() {
        ConfigDesk desk = OPEN.get();
        Check.is(0, "no rules", () -> desk.faults(0));
        for (int i = 1; i <= 8; i++) {
            int count = i;
            desk.rule(1, 1, 0, 98);
            Check.is(count, "so many that are not kept", () -> desk.faults(0));
            Check.is(0, "an empty version keeps them", () -> desk.faults(10));
        }
        desk.set(0, 1, 9, 0, 98);
        Check.is(0, "all of them are kept", () -> desk.faults(0));
        Check.is(8, "the version has not been edited", () -> desk.faults(11));
    }

    /** A section with no entry keeps every rule, whatever its groups and the other sections have. */
    private static void noEntryKeepsAll() {
        for (int i = 0; i < 8; i++) {
            int kind = i / 2;
            int field = i % 2;
            ConfigDesk desk = OPEN.get();
            desk.rule(kind, 0, field, 0);
            Check.is(0, "no entry", () -> desk.faults(0));
            desk.add(0, 0, 6, 0);
            Check.is(kind == 0 ? 1 : 0, "one without value", () -> desk.faults(0));
            desk.set(0, 0, 6, field, 1);
            Check.is(kind == 1 || kind == 2 ? 1 : 0, "one with a value", () -> desk.faults(0));
        }
    }

    private static void eachShowsAValue() {
        for (int i = 0; i < 6; i++) {
            int key = "905137".charAt(i) - '0';
            ConfigDesk desk = OPEN.get();
            desk.rule(0, 1, 0, 0);
            Check.is(0, "each of six", () -> desk.faults(0));
            desk.set(0, 1, key, 0, -1);
            Check.is(1, "each of six but one", () -> desk.faults(0));
            desk.set(0, 1, key, 1, 5);
            Check.is(1, "a value of the other field", () -> desk.faults(0));
            desk.join(0, 1, key, 2);
            desk.setGroup(0, 2, 0, 0);
            Check.is(0, "0 from its group", () -> desk.faults(0));
            desk.join(0, 1, key, -1);
            desk.set(0, 1, key, 0, 0);
            Check.is(0, "0 of its own", () -> desk.faults(0));
        }
    }

    private static void noneAbove() {
        for (int number = 0; number < 99; number += 7) {
            for (int i = 0; i < 6; i++) {
                int key = "905137".charAt(i) - '0';
                int most = number;
                ConfigDesk desk = OPEN.get();
                desk.rule(1, 1, 1, most);
                for (int group = 0; group < 3; group++) {
                    desk.setGroup(0, group, 1, -1);
                }
                Check.is(0, "no values", () -> desk.faults(0));
                desk.set(0, 1, key, 1, most);
                Check.is(0, "just the number", () -> desk.faults(0));
                desk.set(0, 1, key, 1, most + 1);
                Check.is(1, "just above the number", () -> desk.faults(0));
                desk.set(0, 1, key, 1, -1);
                desk.join(0, 1, key, 0);
                desk.setGroup(0, 0, 1, most);
                Check.is(0, "just the number, from a group", () -> desk.faults(0));
                desk.setGroup(0, 0, 1, most + 1);
                Check.is(1, "just above the number, from a group", () -> desk.faults(0));
            }
        }
    }

    private static void keysOfASection() {
        ConfigDesk desk = Desks.with("905137", "4", "6").get();
        desk.rule(2, 1, 1, 0);
        desk.setGroup(0, 1, 1, -1);
        for (int i = 0; i < 6; i++) {
            int key = "905137".charAt(i) - '0';
            desk.set(0, 1, 4, 1, key);
            Check.is(0, "the key " + key + " of six", () -> desk.faults(0));
            desk.remove(0, 0, key);
            Check.is(1, "the key " + key + " has gone", () -> desk.faults(0));
            desk.add(0, 0, key, i);
        }
        for (int value : new int[] {2, 4, 6, 8, 10, 19, 99}) {
            desk.set(0, 1, 4, 1, value);
            Check.is(1, value + " is no key of the six", () -> desk.faults(0));
        }
    }

    private static void keysFromLowestToHighest() {
        for (int i = 0; i < 9; i++) {
            int section = i / 3;
            int other = i % 3;
            for (int value : new int[] {0, 9}) {
                ConfigDesk desk = new ConfigDesk();
                desk.open(0);
                desk.rule(2, section, 0, other);
                desk.add(0, section, 5, 0);
                desk.set(0, section, 5, 0, value);
                Check.is(1, "no such key in the section " + other, () -> desk.faults(0));
                desk.add(0, other, value, 0);
                Check.is(0, "the key " + value + " of the section " + other, () -> desk.faults(0));
            }
        }
    }

    private static void noTwoAlike() {
        String keys = "905137";
        for (int first = 0; first < 6; first++) {
            for (int second = first + 1; second < 6; second++) {
                int one = keys.charAt(first) - '0';
                int two = keys.charAt(second) - '0';
                ConfigDesk desk = OPEN.get();
                desk.rule(3, 1, 0, 0);
                Check.is(0, "six values", () -> desk.faults(0));
                desk.set(0, 1, one, 0, -1);
                desk.set(0, 1, two, 0, -1);
                Check.is(0, "two show none", () -> desk.faults(0));
                desk.set(0, 1, one, 0, 4);
                Check.is(0, "one shows none", () -> desk.faults(0));
                desk.set(0, 1, two, 0, 4);
                Check.is(1, "two show the same", () -> desk.faults(0));
                desk.set(0, 1, two, 0, -1);
                desk.join(0, 1, two, 1);
                desk.join(0, 1, one, 0);
                desk.setGroup(0, 1, 0, 4);
                Check.is(1, "two show the same, one from its group", () -> desk.faults(0));
                desk.setGroup(0, 1, 0, 2);
                Check.is(0, "they show others", () -> desk.faults(0));
            }
        }
    }
}
