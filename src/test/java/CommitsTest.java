/** Promises 13 to 17: commits, and how they are confirmed or undone. */
public final class CommitsTest {
    public static void main(String[] args) {
        promise13();
        promise13ThrowsInOrder();
        promise13AtTheLimit();
        promise13Rules();
        promise13LooseRemoval();
        promise13LooseAddition();
        promise13LooseMove();
        promise13LooseSettings();
        promise14();
        promise15();
        promise15KeepsNoRules();
        promises16And17();
        Check.end("CommitsTest");
    }

    /** The version 1 has the keys of the text in the section 0; all candidates are open from it. */
    private static ConfigDesk deskWith(String keys) {
        ConfigDesk desk = new ConfigDesk();
        desk.open(0);
        for (int i = 0; i < keys.length(); i++) {
            desk.add(0, 0, keys.charAt(i) - '0', i);
        }
        desk.commit(0, 0);
        for (int candidate = 0; candidate < 3; candidate++) {
            desk.open(candidate);
        }
        return desk;
    }

    private static void promise13() {
        ConfigDesk desk = deskWith("12");
        Check.is(2, "commit nothing", () -> desk.commit(2, 0));
        Check.is(1, "it is a version all the same", () -> desk.same(12, 11) ? 1 : 0);
        desk.add(0, 1, 5, 0);
        desk.setGroup(0, 0, 0, 3);
        desk.add(1, 2, 6, 0);
        desk.setGroup(1, 0, 1, 4);
        Check.is(3, "commit one", () -> desk.commit(0, 0));
        Check.noIndex("the candidate is not open then", () -> desk.size(0, 0));
        Check.noState("the candidate is not open then", () -> desk.commit(0, 0));
        Check.is(0, "the other one is as it was", () -> desk.size(1, 1));
        Check.is(4, "commit the other one", () -> desk.commit(1, 0));
        Check.is(4, "it is running", () -> desk.running());
        Check.compare("12/5/6", "what both have edited",
            Check.keys(desk, 14, 0) + "/" + Check.keys(desk, 14, 1) + "/" + Check.keys(desk, 14, 2));
        Check.compare("900 901", "what both have set", newGroupCodes(desk));
        Check.compare("5", "the version ahead of it stays", Check.keys(desk, 13, 1) + Check.keys(desk, 13, 2));
        desk.open(0);
        desk.load(0, 0);
        Check.is(5, "commit a loaded one", () -> desk.commit(0, 0));
        Check.is(1, "the edits lead from the base", () -> desk.same(15, 10) ? 1 : 0);
    }

    private static String newGroupCodes(ConfigDesk desk) {
        String codes = Check.codes(desk, 11, 14);
        return codes.substring(codes.indexOf('9'));
    }

    private static void promise13ThrowsInOrder() {
        ConfigDesk desk = new ConfigDesk();
        for (int candidate : new int[] {-1, 3, 10, Integer.MIN_VALUE, Integer.MAX_VALUE}) {
            Check.noIndex("commit(" + candidate + ", 101)", () -> desk.commit(candidate, 101));
        }
        for (int minutes : new int[] {-1, 101, Integer.MIN_VALUE, Integer.MAX_VALUE}) {
            Check.noArgument("commit(0, " + minutes + ")", () -> desk.commit(0, minutes));
        }
        Check.noState("commit a closed one", () -> desk.commit(0, 0));
        desk.open(0);
        desk.open(1);
        Check.noArgument("commit(0, -1)", () -> desk.commit(0, -1));
        Check.is(1, "100 minutes", () -> desk.commit(0, 100));
        Check.noState("a commit waits", () -> desk.commit(1, 0));
        Check.noState("a commit waits", () -> desk.commit(1, 5));
        Check.is(0, "the candidate is open still", () -> desk.size(1, 0));
        Check.is(100, "the commit waits still", () -> desk.waiting());
        desk.confirm();
        Check.is(2, "nothing waits", () -> desk.commit(1, 0));
    }

    private static void promise13AtTheLimit() {
        for (int last = 0; last < 2; last++) {
            ConfigDesk desk = new ConfigDesk();
            for (int i = 1; i < 28; i++) {
                desk.open(0);
                desk.commit(0, 0);
            }
            desk.open(0);
            desk.add(0, 1, 1, 0);
            int minutes = last;
            Check.is(28, "the 29th version", () -> desk.commit(0, minutes));
            Check.is(28 + last, "advance", () -> desk.advance(1));
            desk.open(0);
            Check.noState("there are 29 versions or more", () -> desk.commit(0, 0));
            Check.is(28 + last, "running", () -> desk.running());
            Check.is(1 - last, "the last version is there", () -> desk.size(38 + minutes, 1));
            Check.noIndex("there is no further one", () -> desk.size(39 + minutes, 1));
        }
    }

    private static void promise13Rules() {
        ConfigDesk desk = deskWith("12");
        desk.rule(0, 0, 0, 0);
        Check.is(1, "the running version does not keep the rule", () -> desk.faults(11));
        Check.noState("nothing is committed then", () -> desk.commit(1, 0));
        desk.set(0, 0, 1, 0, 1);
        desk.set(0, 0, 2, 0, 1);
        Check.is(2, "it keeps the rule now", () -> desk.commit(0, 0));
        desk.rule(3, 0, 0, 0);
        desk.open(0);
        Check.noState("a rule that came behind the version", () -> desk.commit(0, 0));
        desk.set(0, 0, 2, 0, 2);
        desk.commit(0, 0);
        desk.open(0);
        desk.open(2);
        desk.set(0, 0, 1, 0, 8);
        desk.set(2, 0, 2, 0, 8);
        Check.is(0, "the candidate keeps all rules", () -> desk.faults(2));
        desk.commit(0, 0);
        Check.is(0, "so does the running version", () -> desk.faults(14));
        Check.noState("but not what comes of both", () -> desk.commit(2, 0));
        desk.set(2, 0, 2, 0, -1);
        desk.set(2, 0, 1, 0, 9);
        Check.noState("the value before is another one", () -> desk.commit(2, 0));
        Check.is(4, "nothing has changed", () -> desk.running());
        Check.is(2, "the candidate is open still", () -> desk.size(2, 0));
    }

    private static void promise13LooseRemoval() {
        ConfigDesk desk = deskWith("123");
        desk.move(0, 0, 3, 0);
        desk.commit(0, 0);
        desk.remove(1, 0, 3);
        Check.is(3, "it is removed at any place", () -> desk.commit(1, 0));
        Check.compare("12", "what is left", Check.keys(desk, 13, 0));
        desk.remove(2, 0, 3);
        Check.noState("it is not there any more", () -> desk.commit(2, 0));
        for (int i = 0; i < 3; i++) {
            ConfigDesk other = deskWith("123");
            if (i < 2) {
                other.set(0, 0, 3, i, 5);
            } else {
                other.join(0, 0, 3, 0);
            }
            other.commit(0, 0);
            other.remove(1, 0, 3);
            Check.noState("it has another value or group", () -> other.commit(1, 0));
            Check.compare("123", "nothing has changed", Check.keys(other, 10 + other.running(), 0));
        }
    }

    private static void promise13LooseAddition() {
        ConfigDesk desk = deskWith("1234");
        desk.remove(0, 0, 1);
        desk.remove(0, 0, 2);
        desk.remove(0, 0, 3);
        desk.commit(0, 0);
        desk.add(1, 0, 7, 3);
        desk.set(1, 0, 7, 1, 9);
        desk.join(1, 0, 7, 2);
        Check.is(3, "the place is not there", () -> desk.commit(1, 0));
        Check.compare("47", "it goes to the end", Check.keys(desk, 13, 0));
        Check.is(103, "with its value and group", () -> desk.own(13, 0, 1));
        desk.add(2, 0, 8, 1);
        Check.is(4, "the place is there", () -> desk.commit(2, 0));
        Check.compare("487", "it goes to its place", Check.keys(desk, 14, 0));

        ConfigDesk full = deskWith("1234");
        full.add(0, 0, 7, 0);
        full.add(1, 0, 7, 0);
        full.commit(0, 0);
        Check.noState("the key is there", () -> full.commit(1, 0));
        full.remove(1, 0, 7);
        full.add(1, 0, 8, 4);
        full.add(2, 0, 9, 4);
        full.commit(1, 0);
        Check.compare("712384", "it goes to its place", Check.keys(full, 13, 0));
        Check.noState("there are 6", () -> full.commit(2, 0));
        full.remove(2, 0, 1);
        Check.is(4, "one goes first", () -> full.commit(2, 0));
        Check.compare("723984", "it goes to its place", Check.keys(full, 14, 0));
    }

    private static void promise13LooseMove() {
        ConfigDesk desk = deskWith("12345");
        desk.remove(0, 0, 1);
        desk.remove(0, 0, 3);
        desk.set(0, 0, 2, 0, 7);
        desk.commit(0, 0);
        desk.move(1, 0, 5, 0);
        Check.compare("53", "one move", Check.codes(desk, 11, 1));
        Check.is(3, "it is moved from another place", () -> desk.commit(1, 0));
        Check.compare("524", "it goes to its place", Check.keys(desk, 13, 0));
        desk.move(2, 0, 4, 3);
        desk.move(2, 0, 5, 3);
        Check.compare("53", "one move", Check.codes(desk, 11, 2));
        Check.is(4, "the place is not there", () -> desk.commit(2, 0));
        Check.compare("245", "it goes to the last one", Check.keys(desk, 14, 0));

        ConfigDesk other = deskWith("123");
        other.remove(0, 0, 3);
        other.commit(0, 0);
        other.move(1, 0, 3, 0);
        Check.noState("it is not there", () -> other.commit(1, 0));
        other.load(1, 1);
        other.move(1, 0, 2, 0);
        Check.is(3, "it has a place that it is moved to", () -> other.commit(1, 0));
        Check.compare("21", "it goes to its place", Check.keys(other, 13, 0));
    }

    private static void promise13LooseSettings() {
        ConfigDesk desk = deskWith("12");
        desk.set(0, 0, 1, 0, 5);
        desk.move(0, 0, 1, 1);
        desk.commit(0, 0);
        desk.set(1, 0, 1, 1, 6);
        desk.join(1, 0, 1, 2);
        Check.is(3, "another setting of the entry", () -> desk.commit(1, 0));
        Check.is(60073, "all of them", () -> desk.own(13, 0, 1));
        desk.set(2, 0, 1, 0, 5);
        Check.noState("another value before, though it is the same behind", () -> desk.commit(2, 0));
        desk.set(2, 0, 1, 0, -1);
        desk.join(2, 0, 1, 1);
        Check.noState("another group before", () -> desk.commit(2, 0));
        desk.join(2, 0, 1, -1);
        desk.open(0);
        desk.setGroup(0, 1, 1, 10);
        desk.commit(0, 0);
        desk.setGroup(2, 1, 1, 11);
        Check.noState("another value of the group before", () -> desk.commit(2, 0));
        desk.setGroup(2, 1, 1, -1);
        desk.setGroup(2, 1, 0, 11);
        Check.is(5, "the other field of the group", () -> desk.commit(2, 0));
        desk.open(0);
        desk.open(1);
        desk.remove(0, 0, 2);
        desk.set(1, 0, 2, 0, 3);
        desk.commit(0, 0);
        Check.noState("the entry is not there", () -> desk.commit(1, 0));
    }

    private static void promise14() {
        ConfigDesk desk = deskWith("12");
        Check.noState("none waits", () -> desk.confirm());
        desk.commit(2, 0);
        Check.noState("no confirming is needed", () -> desk.confirm());
        desk.add(0, 1, 5, 0);
        desk.commit(0, 30);
        desk.advance(10);
        desk.advance(1);
        Check.is(19, "what is left", () -> desk.confirm());
        Check.noState("confirm twice", () -> desk.confirm());
        Check.is(-1, "nothing waits", () -> desk.waiting());
        Check.is(3, "it stays", () -> desk.advance(100));
        Check.compare("5", "it stays", Check.keys(desk, 13, 1));
        desk.open(0);
        desk.commit(0, 1);
        Check.is(1, "confirm in the last minute", () -> desk.confirm());
        desk.open(0);
        desk.commit(0, 1);
        desk.advance(1);
        Check.noState("it has been undone", () -> desk.confirm());
    }

    private static void promise15() {
        ConfigDesk desk = deskWith("12");
        for (int minutes : new int[] {0, -1, 101, Integer.MIN_VALUE, Integer.MAX_VALUE}) {
            Check.noArgument("advance(" + minutes + ")", () -> desk.advance(minutes));
        }
        Check.is(1, "nothing waits", () -> desk.advance(1));
        Check.is(1, "nothing waits", () -> desk.advance(100));
        desk.add(0, 0, 9, 0);
        desk.setGroup(0, 0, 0, 9);
        desk.commit(0, 10);
        Check.is(2, "9 of 10 minutes", () -> desk.advance(9));
        Check.noArgument("advance(0)", () -> desk.advance(0));
        Check.is(1, "one is left", () -> desk.waiting());
        Check.is(3, "10 of 10 minutes", () -> desk.advance(1));
        Check.is(1, "it is as it was", () -> desk.same(13, 11) ? 1 : 0);
        Check.compare("912", "the version that was undone is there", Check.keys(desk, 12, 0));
        Check.is(3, "it is undone once", () -> desk.advance(100));
        desk.open(0);
        desk.add(0, 0, 8, 0);
        desk.add(1, 0, 7, 0);
        desk.commit(0, 5);
        Check.is(5, "more than its minutes", () -> desk.advance(100));
        Check.is(1, "it is as it was", () -> desk.same(15, 13) ? 1 : 0);
        Check.is(6, "nothing waits then", () -> desk.commit(1, 7));
        Check.compare("712", "its base is an old one", Check.keys(desk, 16, 0));
        Check.is(7, "the time is counted from the commit on", () -> desk.waiting());
    }

    private static void promise15KeepsNoRules() {
        ConfigDesk desk = deskWith("12");
        desk.remove(0, 0, 1);
        desk.remove(0, 0, 2);
        desk.rule(0, 0, 0, 0);
        desk.commit(0, 3);
        Check.is(0, "it keeps the rule", () -> desk.faults(12));
        Check.is(3, "it is undone", () -> desk.advance(3));
        Check.is(1, "whether or not the rule is kept", () -> desk.faults(13));
        Check.is(1, "it is as it was", () -> desk.same(13, 11) ? 1 : 0);
    }

    private static void promises16And17() {
        ConfigDesk desk = new ConfigDesk();
        Check.is(0, "running at first", () -> desk.running());
        Check.is(-1, "waiting at first", () -> desk.waiting());
        desk.open(0);
        desk.commit(0, 0);
        Check.is(1, "running", () -> desk.running());
        Check.is(-1, "no confirming is needed", () -> desk.waiting());
        desk.open(0);
        desk.commit(0, 50);
        Check.is(2, "running while it waits", () -> desk.running());
        Check.is(50, "waiting", () -> desk.waiting());
        desk.advance(20);
        Check.is(30, "waiting", () -> desk.waiting());
        desk.advance(29);
        Check.is(1, "waiting", () -> desk.waiting());
        desk.open(1);
        Check.noState("it waits to its last minute", () -> desk.commit(1, 0));
        Check.is(2, "running while it waits", () -> desk.running());
        desk.advance(1);
        Check.is(-1, "it has been undone", () -> desk.waiting());
        Check.is(3, "it has been undone", () -> desk.running());
    }
}
