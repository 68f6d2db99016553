/** Promises 11 and 12: rules are added, and counted where they are not kept. */
public final class RulesTest {
    private static final int[] OUTSIDE = {Integer.MIN_VALUE, -1, 100, Integer.MAX_VALUE};

    public static void main(String[] args) {
        promise11();
        promise11ThrowsInOrder();
        promise12();
        promise12EachShowsAValue();
        promise12NoneAbove();
        promise12KeysOfASection();
        promise12NoTwoAlike();
        Check.end("RulesTest");
    }

    private static ConfigDesk deskWithRule(int kind, int section, int field, int number) {
        ConfigDesk desk = new ConfigDesk();
        desk.rule(kind, section, field, number);
        desk.open(0);
        desk.add(0, 1, 3, 0);
        desk.add(0, 1, 5, 1);
        desk.add(0, 1, 7, 2);
        return desk;
    }

    private static void promise11() {
        ConfigDesk desk = new ConfigDesk();
        for (int i = 0; i < 8; i++) {
            int number = i;
            Check.is(i, "rule " + i, () -> desk.rule(number % 4, number % 3, number % 2, number == 0 ? 0 : 99));
        }
        Check.noState("a ninth rule", () -> desk.rule(0, 0, 0, 0));
        Check.noState("a ninth rule again", () -> desk.rule(3, 2, 1, 99));
        Check.is(0, "an empty version keeps all of them", () -> desk.faults(10));
    }

    private static void promise11ThrowsInOrder() {
        ConfigDesk desk = new ConfigDesk();
        for (int section : new int[] {-1, 3, Integer.MIN_VALUE, Integer.MAX_VALUE}) {
            Check.noIndex("rule without section", () -> desk.rule(4, section, 0, 100));
        }
        for (int field : new int[] {-1, 2, Integer.MIN_VALUE, Integer.MAX_VALUE}) {
            Check.noIndex("rule without field", () -> desk.rule(4, 0, field, 100));
        }
        for (int kind : new int[] {-1, 4, Integer.MIN_VALUE, Integer.MAX_VALUE}) {
            Check.noArgument("rule of the kind " + kind, () -> desk.rule(kind, 0, 0, 0));
        }
        for (int number : OUTSIDE) {
            for (int i = 0; i < 4; i++) {
                int kind = i;
                Check.noArgument("rule " + kind + " with " + number, () -> desk.rule(kind, 0, 0, number));
            }
        }
        Check.is(0, "none has been added", () -> desk.rule(0, 0, 0, 0));
        for (int i = 1; i < 8; i++) {
            desk.rule(0, 0, 0, 0);
        }
        Check.noIndex("no section comes first", () -> desk.rule(0, 3, 0, 0));
        Check.noIndex("no field comes first", () -> desk.rule(0, 0, 2, 0));
        Check.noArgument("a wrong kind comes next", () -> desk.rule(4, 0, 0, 0));
        Check.noArgument("a wrong number comes next", () -> desk.rule(0, 0, 0, 100));
        Check.noState("eight rules come last", () -> desk.rule(0, 0, 0, 0));
    }

    private static void promise12() {
        ConfigDesk desk = deskWithRule(0, 1, 0, 50);
        Check.is(1, "a rule that is not kept", () -> desk.faults(0));
        desk.rule(0, 1, 0, 50);
        Check.is(2, "the same rule twice", () -> desk.faults(0));
        desk.rule(0, 0, 0, 50);
        Check.is(2, "a rule for an empty section", () -> desk.faults(0));
        desk.rule(0, 1, 1, 50);
        Check.is(3, "a rule for the other field", () -> desk.faults(0));
        desk.rule(2, 2, 0, 50);
        desk.rule(3, 1, 0, 50);
        desk.rule(1, 1, 0, 0);
        Check.is(3, "rules that are kept", () -> desk.faults(0));
        Check.is(0, "another configuration", () -> desk.faults(10));
        for (int which : new int[] {-1, 1, 2, 3, 9, 11, 40, Integer.MIN_VALUE, Integer.MAX_VALUE}) {
            Check.noIndex("faults(" + which + ")", () -> desk.faults(which));
        }
    }

    private static void promise12EachShowsAValue() {
        ConfigDesk desk = deskWithRule(0, 1, 1, 0);
        desk.set(0, 1, 3, 1, 0);
        desk.set(0, 1, 5, 1, 99);
        Check.is(1, "one shows none", () -> desk.faults(0));
        desk.set(0, 1, 7, 0, 4);
        Check.is(1, "the other field does not matter", () -> desk.faults(0));
        desk.join(0, 1, 7, 2);
        Check.is(1, "a group without a value", () -> desk.faults(0));
        desk.setGroup(0, 2, 1, 0);
        Check.is(0, "a group with a value", () -> desk.faults(0));
        desk.join(0, 1, 7, 1);
        Check.is(1, "another group", () -> desk.faults(0));
        desk.set(0, 1, 7, 1, 0);
        Check.is(0, "an own value", () -> desk.faults(0));
    }

    private static void promise12NoneAbove() {
        ConfigDesk desk = deskWithRule(1, 1, 0, 20);
        Check.is(0, "none shows a value", () -> desk.faults(0));
        desk.set(0, 1, 7, 0, 20);
        desk.set(0, 1, 5, 1, 99);
        Check.is(0, "just the number", () -> desk.faults(0));
        desk.set(0, 1, 7, 0, 21);
        Check.is(1, "above the number", () -> desk.faults(0));
        desk.join(0, 1, 7, 0);
        desk.setGroup(0, 0, 0, 30);
        desk.set(0, 1, 7, 0, 1);
        Check.is(0, "the own value goes before the group's", () -> desk.faults(0));
        desk.set(0, 1, 7, 0, -1);
        Check.is(1, "the group's value", () -> desk.faults(0));
        ConfigDesk strict = deskWithRule(1, 1, 0, 0);
        strict.set(0, 1, 3, 0, 0);
        Check.is(0, "0 is not above 0", () -> strict.faults(0));
        strict.set(0, 1, 3, 0, 1);
        Check.is(1, "1 is above 0", () -> strict.faults(0));
        ConfigDesk lax = deskWithRule(1, 1, 0, 99);
        lax.set(0, 1, 3, 0, 99);
        Check.is(0, "nothing is above 99", () -> lax.faults(0));
    }

    private static void promise12KeysOfASection() {
        ConfigDesk desk = deskWithRule(2, 1, 0, 2);
        Check.is(0, "none shows a value", () -> desk.faults(0));
        desk.set(0, 1, 5, 0, 9);
        Check.is(1, "no such key", () -> desk.faults(0));
        desk.add(0, 0, 9, 0);
        Check.is(1, "the key of another section", () -> desk.faults(0));
        desk.add(0, 2, 9, 0);
        Check.is(0, "the key of the section", () -> desk.faults(0));
        desk.set(0, 1, 7, 0, 10);
        Check.is(1, "no key has this number", () -> desk.faults(0));
        desk.set(0, 1, 7, 0, 99);
        Check.is(1, "no key has this number", () -> desk.faults(0));
        desk.set(0, 1, 7, 0, 9);
        Check.is(0, "two of the same key", () -> desk.faults(0));
        desk.set(0, 1, 3, 1, 8);
        Check.is(0, "the other field does not matter", () -> desk.faults(0));
        desk.join(0, 1, 3, 0);
        desk.setGroup(0, 0, 0, 8);
        Check.is(1, "what a group shows is no key", () -> desk.faults(0));
        for (int number : new int[] {3, 4, 99}) {
            ConfigDesk other = deskWithRule(2, 1, 0, number);
            Check.is(0, "a section without entries, and no value", () -> other.faults(0));
            other.set(0, 1, 3, 0, 3);
            Check.is(1, "a section without entries", () -> other.faults(0));
        }
        ConfigDesk own = deskWithRule(2, 1, 0, 1);
        own.set(0, 1, 3, 0, 7);
        Check.is(0, "a key of the section itself", () -> own.faults(0));
        own.set(0, 1, 3, 0, 4);
        Check.is(1, "no key of the section itself", () -> own.faults(0));
    }

    private static void promise12NoTwoAlike() {
        ConfigDesk desk = deskWithRule(3, 1, 1, 0);
        Check.is(0, "none is no value", () -> desk.faults(0));
        desk.set(0, 1, 3, 1, 6);
        desk.set(0, 1, 7, 0, 6);
        Check.is(0, "the other field does not matter", () -> desk.faults(0));
        desk.set(0, 1, 7, 1, 6);
        Check.is(1, "the first and the last one", () -> desk.faults(0));
        desk.set(0, 1, 7, 1, 7);
        Check.is(0, "other values", () -> desk.faults(0));
        desk.join(0, 1, 5, 1);
        desk.setGroup(0, 1, 1, 7);
        Check.is(1, "an own value and a group's", () -> desk.faults(0));
        desk.join(0, 1, 7, 1);
        desk.set(0, 1, 7, 1, -1);
        Check.is(1, "two of a group", () -> desk.faults(0));
        desk.setGroup(0, 1, 1, -1);
        Check.is(0, "two of a group without a value", () -> desk.faults(0));
        desk.add(0, 0, 3, 0);
        desk.set(0, 0, 3, 1, 6);
        Check.is(0, "the same value in another section", () -> desk.faults(0));
    }
}
