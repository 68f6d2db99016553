import java.util.ArrayList;
import java.util.Collections;
import java.util.HashSet;
import java.util.List;
import java.util.Set;

/**
 * The document once more, written in another way than the program: configurations are never changed but made
 * anew, time is a clock, and an edit is an object that answers what it makes of a configuration.
 */
final class PlainDesk {
    static final int NONE = -1;

    record Item(int key, int first, int second, int group) {
        int field(int field) {
            return field == 0 ? first : second;
        }

        Item with(int setting, int value) {
            return new Item(key, setting == 0 ? value : first, setting == 1 ? value : second,
                setting == 2 ? value : group);
        }

        int setting(int setting) {
            return setting == 2 ? group : field(setting);
        }
    }

    record Config(List<List<Item>> sections, List<Integer> groups) {
        static Config empty() {
            return new Config(List.of(List.of(), List.of(), List.of()), List.of(-1, -1, -1, -1, -1, -1));
        }

        Config withSection(int section, List<Item> items) {
            List<List<Item>> all = new ArrayList<>(sections);
            all.set(section, List.copyOf(items));
            return new Config(List.copyOf(all), groups);
        }

        Config withGroup(int group, int field, int value) {
            List<Integer> all = new ArrayList<>(groups);
            all.set(2 * group + field, value);
            return new Config(sections, List.copyOf(all));
        }

        List<Item> copyOf(int section) {
            return new ArrayList<>(sections.get(section));
        }

        Item find(int section, int key) {
            for (Item item : sections.get(section)) {
                if (item.key() == key) {
                    return item;
                }
            }
            return null;
        }

        int shown(Item item, int field) {
            if (item.field(field) != NONE) {
                return item.field(field);
            }
            return item.group() == NONE ? NONE : groups.get(2 * item.group() + field);
        }
    }

    interface Edit {
        /** What it makes of a configuration; null if it cannot be applied. */
        Config on(Config config, boolean loosely);

        Edit inverse();

        int code();
    }

    record Removal(int section, int place, Item item) implements Edit {
        public Config on(Config config, boolean loosely) {
            List<Item> items = config.copyOf(section);
            boolean isThere = loosely ? items.contains(item) : place < items.size() && items.get(place).equals(item);
            if (!isThere) {
                return null;
            }
            items.remove(item);
            return config.withSection(section, items);
        }

        public Edit inverse() {
            return new Addition(section, place, item);
        }

        public int code() {
            return 100 * section + 10 * item.key() + 1;
        }
    }

    record Addition(int section, int place, Item item) implements Edit {
        public Config on(Config config, boolean loosely) {
            List<Item> items = config.copyOf(section);
            if (config.find(section, item.key()) != null || items.size() == 6 || !loosely && items.size() < place) {
                return null;
            }
            items.add(items.size() < place ? items.size() : place, item);
            return config.withSection(section, items);
        }

        public Edit inverse() {
            return new Removal(section, place, item);
        }

        public int code() {
            return 100 * section + 10 * item.key() + 2;
        }
    }

    record Move(int section, int key, int first, int second) implements Edit {
        public Config on(Config config, boolean loosely) {
            List<Item> items = config.copyOf(section);
            Item item = config.find(section, key);
            if (item == null || !loosely && (items.indexOf(item) != first || second >= items.size())) {
                return null;
            }
            items.remove(item);
            items.add(second > items.size() ? items.size() : second, item);
            return config.withSection(section, items);
        }

        public Edit inverse() {
            return new Move(section, key, second, first);
        }

        public int code() {
            return 100 * section + 10 * key + 3;
        }
    }

    record Setting(int section, int key, int setting, int before, int behind) implements Edit {
        public Config on(Config config, boolean loosely) {
            Item item = config.find(section, key);
            if (item == null || item.setting(setting) != before) {
                return null;
            }
            List<Item> items = config.copyOf(section);
            items.set(items.indexOf(item), item.with(setting, behind));
            return config.withSection(section, items);
        }

        public Edit inverse() {
            return new Setting(section, key, setting, behind, before);
        }

        public int code() {
            return 100 * section + 10 * key + 4 + setting;
        }
    }

    record GroupSetting(int group, int field, int before, int behind) implements Edit {
        public Config on(Config config, boolean loosely) {
            return config.groups().get(2 * group + field) != before ? null : config.withGroup(group, field, behind);
        }

        public Edit inverse() {
            return new GroupSetting(group, field, behind, before);
        }

        public int code() {
            return 900 + 10 * group + field;
        }
    }

    record Rule(int kind, int section, int field, int number) {
        boolean isKept(Config config) {
            List<Integer> values = new ArrayList<>();
            for (Item item : config.sections().get(section)) {
                values.add(config.shown(item, field));
            }
            if (kind == 0) {
                return !values.contains(NONE);
            }
            values.removeIf(value -> value == NONE);
            if (kind == 1) {
                return values.stream().allMatch(value -> value <= number);
            }
            if (kind == 2) {
                return values.stream().allMatch(value -> number <= 2 && config.find(number, value) != null);
            }
            Set<Integer> others = new HashSet<>(values);
            return others.size() == values.size();
        }
    }

    final Config[] candidates = new Config[3];
    final int[] bases = new int[3];
    final List<Config> versions = new ArrayList<>(List.of(Config.empty()));
    final List<Rule> rules = new ArrayList<>();
    long now = 0;
    long deadline = -1;
    Config aheadOfCommit = null;

    static List<Edit> editsBetween(Config a, Config b) {
        List<Edit> edits = new ArrayList<>();
        Config work = a;
        for (int section = 0; section < 3; section++) {
            List<Item> old = new ArrayList<>(a.sections().get(section));
            Collections.reverse(old);
            for (Item item : old) {
                if (b.find(section, item.key()) == null) {
                    work = noted(edits, work,
                        new Removal(section, work.sections().get(section).indexOf(item), item));
                }
            }
            List<Item> due = b.sections().get(section);
            for (int place = 0; place < due.size(); place++) {
                Item item = due.get(place);
                Item there = work.find(section, item.key());
                if (there == null) {
                    work = noted(edits, work, new Addition(section, place, item));
                } else if (work.sections().get(section).indexOf(there) != place) {
                    int first = work.sections().get(section).indexOf(there);
                    work = noted(edits, work, new Move(section, item.key(), first, place));
                }
            }
            old.sort((one, other) -> one.key() - other.key());
            for (Item item : old) {
                for (int setting = 0; setting < 3 && b.find(section, item.key()) != null; setting++) {
                    int behind = b.find(section, item.key()).setting(setting);
                    if (item.setting(setting) != behind) {
                        work = noted(edits, work,
                            new Setting(section, item.key(), setting, item.setting(setting), behind));
                    }
                }
            }
        }
        for (int i = 0; i < 6; i++) {
            int before = a.groups().get(i);
            int behind = b.groups().get(i);
            if (before != behind) {
                work = noted(edits, work, new GroupSetting(i / 2, i % 2, before, behind));
            }
        }
        if (!work.equals(b)) {
            throw new AssertionError("the edits do not lead from " + a + " to " + b);
        }
        return edits;
    }

    private static Config noted(List<Edit> edits, Config work, Edit edit) {
        edits.add(edit);
        return edit.on(work, false);
    }

    private static Config onAll(Config config, List<Edit> edits, boolean loosely) {
        Config work = config;
        for (Edit edit : edits) {
            work = edit.on(work, loosely);
            if (work == null) {
                throw new IllegalStateException();
            }
        }
        return work;
    }

    private static void index(boolean... isThere) {
        for (boolean is : isThere) {
            if (!is) {
                throw new IndexOutOfBoundsException();
            }
        }
    }

    private static void argument(boolean isInRange) {
        if (!isInRange) {
            throw new IllegalArgumentException();
        }
    }

    private static void state(boolean isSo) {
        if (!isSo) {
            throw new IllegalStateException();
        }
    }

    private static boolean in(int number, int bound) {
        return 0 <= number && number < bound;
    }

    private void openEntry(int candidate, int section, int key) {
        state(candidates[candidate] != null);
        state(candidates[candidate].find(section, key) != null);
    }

    int open(int candidate) {
        index(in(candidate, 3));
        bases[candidate] = running();
        candidates[candidate] = versions.get(running());
        return running();
    }

    int add(int candidate, int section, int key, int place) {
        index(in(candidate, 3), in(section, 3), in(key, 10));
        state(candidates[candidate] != null);
        List<Item> items = candidates[candidate].copyOf(section);
        state(candidates[candidate].find(section, key) == null && items.size() < 6);
        argument(in(place, items.size() + 1));
        items.add(place, new Item(key, NONE, NONE, NONE));
        candidates[candidate] = candidates[candidate].withSection(section, items);
        return items.size();
    }

    int remove(int candidate, int section, int key) {
        index(in(candidate, 3), in(section, 3), in(key, 10));
        openEntry(candidate, section, key);
        List<Item> items = candidates[candidate].copyOf(section);
        int place = items.indexOf(candidates[candidate].find(section, key));
        items.remove(place);
        candidates[candidate] = candidates[candidate].withSection(section, items);
        return place;
    }

    int move(int candidate, int section, int key, int place) {
        index(in(candidate, 3), in(section, 3), in(key, 10));
        openEntry(candidate, section, key);
        List<Item> items = candidates[candidate].copyOf(section);
        argument(in(place, items.size()));
        Item item = candidates[candidate].find(section, key);
        int before = items.indexOf(item);
        items.remove(before);
        items.add(place, item);
        candidates[candidate] = candidates[candidate].withSection(section, items);
        return before;
    }

    int set(int candidate, int section, int key, int field, int value) {
        index(in(candidate, 3), in(section, 3), in(key, 10), in(field, 2));
        argument(value == NONE || in(value, 100));
        return put(candidate, section, key, field, value);
    }

    int join(int candidate, int section, int key, int group) {
        index(in(candidate, 3), in(section, 3), in(key, 10));
        argument(group == NONE || in(group, 3));
        return put(candidate, section, key, 2, group);
    }

    private int put(int candidate, int section, int key, int setting, int value) {
        openEntry(candidate, section, key);
        List<Item> items = candidates[candidate].copyOf(section);
        Item item = candidates[candidate].find(section, key);
        items.set(items.indexOf(item), item.with(setting, value));
        candidates[candidate] = candidates[candidate].withSection(section, items);
        return item.setting(setting);
    }

    int setGroup(int candidate, int group, int field, int value) {
        index(in(candidate, 3), in(group, 3), in(field, 2));
        argument(value == NONE || in(value, 100));
        state(candidates[candidate] != null);
        int before = candidates[candidate].groups().get(2 * group + field);
        candidates[candidate] = candidates[candidate].withGroup(group, field, value);
        return before;
    }

    void load(int candidate, int version) {
        index(in(candidate, 3), in(version, versions.size()));
        state(candidates[candidate] != null);
        candidates[candidate] = versions.get(version);
    }

    int apply(int candidate, int from, int to, boolean isInverse) {
        index(in(candidate, 3));
        List<Edit> edits = editsBetween(config(from), config(to));
        state(candidates[candidate] != null);
        if (isInverse) {
            Collections.reverse(edits);
            edits.replaceAll(Edit::inverse);
        }
        candidates[candidate] = onAll(candidates[candidate], edits, false);
        return edits.size();
    }

    int rule(int kind, int section, int field, int number) {
        index(in(section, 3), in(field, 2));
        argument(in(kind, 4) && in(number, 100));
        state(rules.size() < 8);
        rules.add(new Rule(kind, section, field, number));
        return rules.size() - 1;
    }

    int faults(int which) {
        return faultsOf(config(which));
    }

    private int faultsOf(Config config) {
        return (int) rules.stream().filter(rule -> !rule.isKept(config)).count();
    }

    int commit(int candidate, int minutes) {
        index(in(candidate, 3));
        argument(in(minutes, 101));
        state(candidates[candidate] != null && deadline < 0 && versions.size() < 29);
        List<Edit> edits = editsBetween(versions.get(bases[candidate]), candidates[candidate]);
        Config running = versions.get(running());
        Config next = onAll(running, edits, true);
        state(faultsOf(next) == 0);
        candidates[candidate] = null;
        versions.add(next);
        aheadOfCommit = running;
        deadline = minutes == 0 ? -1 : now + minutes;
        return running();
    }

    int confirm() {
        state(deadline >= 0);
        long left = deadline - now;
        deadline = -1;
        return (int) left;
    }

    int advance(int minutes) {
        argument(minutes >= 1 && minutes <= 100);
        now += minutes;
        if (deadline >= 0 && now >= deadline) {
            versions.add(aheadOfCommit);
            deadline = -1;
        }
        return running();
    }

    int running() {
        return versions.size() - 1;
    }

    int waiting() {
        return deadline < 0 ? NONE : (int) (deadline - now);
    }

    private Config config(int which) {
        index(in(which, 3) || which >= 10 && which - 10 < versions.size());
        Config named = which < 3 ? candidates[which] : versions.get(which - 10);
        index(named != null);
        return named;
    }

    int size(int which, int section) {
        Config config = config(which);
        index(in(section, 3));
        return config.sections().get(section).size();
    }

    private Item item(int which, int section, int place) {
        index(in(place, size(which, section)));
        return config(which).sections().get(section).get(place);
    }

    int keyAt(int which, int section, int place) {
        return item(which, section, place).key();
    }

    int shown(int which, int section, int place, int field) {
        Item item = item(which, section, place);
        index(in(field, 2));
        return config(which).shown(item, field);
    }

    int own(int which, int section, int place) {
        Item item = item(which, section, place);
        return 10000 * (item.first() + 1) + 10 * (item.second() + 1) + (item.group() + 1);
    }

    boolean same(int which, int other) {
        return config(which).equals(config(other));
    }

    int edits(int from, int to) {
        return editsBetween(config(from), config(to)).size();
    }

    int editAt(int from, int to, int k) {
        List<Edit> edits = editsBetween(config(from), config(to));
        index(in(k, edits.size()));
        return edits.get(k).code();
    }
}
