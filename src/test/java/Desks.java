import java.util.function.Supplier;

/** Desks in the states that tests begin with; a supplier makes a new one, always alike, each time. */
final class Desks {
    /** A section with no entry, one with 6, the lowest and the highest key among them, and one with 3. */
    static final Supplier<ConfigDesk> OPEN = with("", "905137", "482");

    private Desks() {
    }

    /**
     * The version 1 has these keys in its sections, and every candidate is open from it. The key k has 11 times k
     * as its value of the field 0, none of the field 1, and belongs to the group k % 3 if k is below 8. The fields 0
     * of the groups have none, the fields 1 have 0, 50 and 99.
     */
    static Supplier<ConfigDesk> with(String first, String second, String third) {
        return () -> {
            ConfigDesk desk = new ConfigDesk();
            desk.open(0);
            fill(desk, 0, first);
            fill(desk, 1, second);
            fill(desk, 2, third);
            desk.setGroup(0, 0, 1, 0);
            desk.setGroup(0, 1, 1, 50);
            desk.setGroup(0, 2, 1, 99);
            desk.commit(0, 0);
            for (int candidate = 0; candidate < 3; candidate++) {
                desk.open(candidate);
            }
            return desk;
        };
    }

    private static void fill(ConfigDesk desk, int section, String keys) {
        for (int place = 0; place < keys.length(); place++) {
            int key = keys.charAt(place) - '0';
            desk.add(0, section, key, place);
            desk.set(0, section, key, 0, 11 * key);
            desk.join(0, section, key, key < 8 ? key % 3 : ConfigDesk.NONE);
        }
    }

    /** The same desk, with a candidate that has been committed, so that it is not open, and one version more. */
    static Supplier<ConfigDesk> closing(int candidate, Supplier<ConfigDesk> desks) {
        return () -> {
            ConfigDesk desk = desks.get();
            desk.commit(candidate, 0);
            return desk;
        };
    }

    /** So many versions, all but the version 0 with the key 5 in the section 2; every candidate is open. */
    static Supplier<ConfigDesk> versions(int count) {
        return () -> {
            ConfigDesk desk = with("", "", "5").get();
            for (int made = 2; made < Math.min(count, 29); made++) {
                desk.commit(0, made == 28 && count == 30 ? 1 : 0);
                desk.open(0);
            }
            if (count == 30) {
                desk.advance(1);
                desk.open(0);
            }
            return desk;
        };
    }

    /** So many rules, all kept by everything: no value is above 99. */
    static Supplier<ConfigDesk> rules(int count, Supplier<ConfigDesk> desks) {
        return () -> {
            ConfigDesk desk = desks.get();
            for (int made = 0; made < count; made++) {
                desk.rule(1, 0, 0, 99);
            }
            return desk;
        };
    }

    /** The candidate 2 has added the key 6 to the section 0, set a group, and been committed for so many minutes. */
    static Supplier<ConfigDesk> waiting(int minutes) {
        return () -> {
            ConfigDesk desk = OPEN.get();
            desk.add(2, 0, 6, 0);
            desk.setGroup(2, 1, 0, 12);
            desk.commit(2, minutes);
            return desk;
        };
    }

    /** load, with an answer: 1. */
    static int load(ConfigDesk desk, int candidate, int version) {
        desk.load(candidate, version);
        return 1;
    }

    /** same, in numbers: 1 or 0. */
    static int same(ConfigDesk desk, int which, int other) {
        return desk.same(which, other) ? 1 : 0;
    }
}
