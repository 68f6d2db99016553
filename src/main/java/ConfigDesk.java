/**
 * A desk for configurations: candidates that are edited side by side, rules that they must keep, commits that
 * lead to numbered versions and are undone unless they are confirmed in time, candidates that are rebased on
 * what others committed, differences as lists of edits that can be applied both ways, and groups from which
 * entries inherit.
 */
public final class ConfigDesk {
    /** None. */
    public static final int NONE = -1;

    private static final int CANDIDATES = 3;
    private static final int SECTIONS = 3;
    private static final int MOST_ENTRIES = 6;
    private static final int KEYS = 10;
    private static final int FIELDS = 2;
    private static final int GROUPS = 3;
    private static final int HIGHEST_VALUE = 99;
    private static final int MOST_RULES = 8;
    private static final int MOST_MINUTES = 100;
    private static final int MOST_VERSIONS = 30;

    /** The number of the version 0 among the configurations. */
    private static final int NUMBER_OF_VERSION_0 = 10;

    /** What is set in an entry: its fields 0 and 1, and behind them its group. */
    private static final int SETTINGS = 3;
    private static final int GROUP = 2;

    /** The kinds of rules. */
    private static final int EACH_SHOWS_A_VALUE = 0;
    private static final int NONE_ABOVE = 1;
    private static final int KEYS_OF_SECTION = 2;
    private static final int NO_TWO_ALIKE = 3;

    /** The kinds of edits; SETTING and GROUP_SETTING stand for the field 0, and the others follow them. */
    private static final int REMOVAL = 1;
    private static final int ADDITION = 2;
    private static final int MOVE = 3;
    private static final int SETTING = 4;
    private static final int GROUP_SETTING = 7;

    /**
     * A section whose 6 entries all stay has at most 6 moves and 18 settings; each entry that goes takes its
     * 3 settings away and leaves a removal, so that no section has more than these 24.
     */
    private static final int MOST_EDITS = SECTIONS * (MOST_ENTRIES + MOST_ENTRIES * SETTINGS) + GROUPS * FIELDS;

    private final Candidate[] candidates = new Candidate[CANDIDATES];
    private final Configuration[] versions = new Configuration[MOST_VERSIONS];
    private int versionCount;
    private final Rule[] rules = new Rule[MOST_RULES];
    private int ruleCount;

    /** How long there is still time to confirm; 0 if no commit waits. */
    private int minutesLeft;
    private int versionAheadOfCommit;

    /** These three are used by one call after the other, so that no call makes new ones. */
    private final EditList list = new EditList();
    private final Configuration draft = new Configuration();
    private final Entry blank = new Entry();

    public ConfigDesk() {
        for (int i = 0; i < CANDIDATES; i++) {
            candidates[i] = new Candidate();
        }
        for (int i = 0; i < MOST_VERSIONS; i++) {
            versions[i] = new Configuration();
        }
        for (int i = 0; i < MOST_RULES; i++) {
            rules[i] = new Rule();
        }
        versionCount = 1;
    }

    // ---- candidates

    /** Opens a candidate, or opens it anew, with the running version as its base; returns the base. */
    public int open(int candidate) throws IndexOutOfBoundsException {
        needIndex(candidate, CANDIDATES);
        Candidate opened = candidates[candidate];
        opened.isOpen = true;
        opened.base = versionCount - 1;
        opened.configuration.copyFrom(versions[opened.base]);
        return opened.base;
    }

    /** Adds an entry without values and group; returns how many entries the section has then. */
    public int add(int candidate, int section, int key, int place)
            throws IndexOutOfBoundsException, IllegalStateException, IllegalArgumentException {
        needEntryName(candidate, section, key);
        Section edited = openConfiguration(candidate).sections[section];
        if (edited.placeOf(key) != NONE || edited.count >= MOST_ENTRIES) {
            throw new IllegalStateException("the key is there, or the section is full");
        }
        needArgument(place, 0, edited.count);
        blank.clear(key);
        edited.insert(place, blank);
        return edited.count;
    }

    /** Removes an entry; returns the place that it had. */
    public int remove(int candidate, int section, int key) throws IndexOutOfBoundsException, IllegalStateException {
        needEntryName(candidate, section, key);
        Section edited = openConfiguration(candidate).sections[section];
        int place = placeOfEntry(edited, key);
        edited.takeOut(place);
        return place;
    }

    /** Moves an entry to the place that it has then; returns the place that it had. */
    public int move(int candidate, int section, int key, int place)
            throws IndexOutOfBoundsException, IllegalStateException, IllegalArgumentException {
        needEntryName(candidate, section, key);
        Section edited = openConfiguration(candidate).sections[section];
        int before = placeOfEntry(edited, key);
        needArgument(place, 0, edited.count - 1);
        edited.shift(before, place);
        return before;
    }

    /** Sets a field of an entry; returns the value before. */
    public int set(int candidate, int section, int key, int field, int value)
            throws IndexOutOfBoundsException, IllegalArgumentException, IllegalStateException {
        needEntryName(candidate, section, key);
        needIndex(field, FIELDS);
        needArgument(value, NONE, HIGHEST_VALUE);
        return exchange(candidate, section, key, field, value);
    }

    /** Puts an entry into a group; returns the group before. */
    public int join(int candidate, int section, int key, int group)
            throws IndexOutOfBoundsException, IllegalArgumentException, IllegalStateException {
        needEntryName(candidate, section, key);
        needArgument(group, NONE, GROUPS - 1);
        return exchange(candidate, section, key, GROUP, group);
    }

    /** Sets a field of a group; returns the value before. */
    public int setGroup(int candidate, int group, int field, int value)
            throws IndexOutOfBoundsException, IllegalArgumentException, IllegalStateException {
        needIndex(candidate, CANDIDATES);
        needIndex(group, GROUPS);
        needIndex(field, FIELDS);
        needArgument(value, NONE, HIGHEST_VALUE);
        int[] values = openConfiguration(candidate).groups[group];
        int before = values[field];
        values[field] = value;
        return before;
    }

    /** Gives a candidate the configuration of a version; its base stays. */
    public void load(int candidate, int version) throws IndexOutOfBoundsException, IllegalStateException {
        needIndex(candidate, CANDIDATES);
        needIndex(version, versionCount);
        openConfiguration(candidate).copyFrom(versions[version]);
    }

    /** Applies the edits between two configurations, or their inverse, exactly; returns how many they were. */
    public int apply(int candidate, int from, int to, boolean isInverse)
            throws IndexOutOfBoundsException, IllegalStateException {
        needIndex(candidate, CANDIDATES);
        list.fill(configurationOf(from), configurationOf(to));
        if (isInverse) {
            list.invert();
        }
        Configuration edited = openConfiguration(candidate);
        draft.copyFrom(edited);
        if (!list.applyTo(draft, false)) {
            throw new IllegalStateException("an edit cannot be applied exactly");
        }
        edited.copyFrom(draft);
        return list.count;
    }

    // ---- rules

    /** Adds a rule; returns its number. */
    public int rule(int kind, int section, int field, int number)
            throws IndexOutOfBoundsException, IllegalArgumentException, IllegalStateException {
        needIndex(section, SECTIONS);
        needIndex(field, FIELDS);
        needArgument(kind, EACH_SHOWS_A_VALUE, NO_TWO_ALIKE);
        needArgument(number, 0, HIGHEST_VALUE);
        if (ruleCount >= MOST_RULES) {
            throw new IllegalStateException("there are 8 rules");
        }
        Rule added = rules[ruleCount];
        added.kind = kind;
        added.section = section;
        added.field = field;
        added.number = number;
        ruleCount++;
        return ruleCount - 1;
    }

    /** Returns how many rules a configuration does not keep. */
    public int faults(int which) throws IndexOutOfBoundsException {
        return brokenRules(configurationOf(which));
    }

    // ---- commits

    /** Commits a candidate by applying its edits loosely to the running version; returns the new version. */
    public int commit(int candidate, int minutes)
            throws IndexOutOfBoundsException, IllegalArgumentException, IllegalStateException {
        needIndex(candidate, CANDIDATES);
        needArgument(minutes, 0, MOST_MINUTES);
        Configuration edited = openConfiguration(candidate);
        // One version is kept back: the one that undoes the commit if it is not confirmed.
        if (minutesLeft > 0 || versionCount >= MOST_VERSIONS - 1) {
            throw new IllegalStateException("a commit waits, or there are 29 versions");
        }
        Candidate committed = candidates[candidate];
        list.fill(versions[committed.base], edited);
        draft.copyFrom(versions[versionCount - 1]);
        if (!list.applyTo(draft, true)) {
            throw new IllegalStateException("an edit cannot be applied loosely");
        }
        if (brokenRules(draft) > 0) {
            throw new IllegalStateException("the new version would not keep a rule");
        }
        versionAheadOfCommit = versionCount - 1;
        minutesLeft = minutes;
        committed.isOpen = false;
        addVersion(draft);
        return versionCount - 1;
    }

    /** Confirms the commit that waits; returns how many minutes would have been left. */
    public int confirm() throws IllegalStateException {
        if (minutesLeft <= 0) {
            throw new IllegalStateException("no commit waits");
        }
        int left = minutesLeft;
        minutesLeft = 0;
        return left;
    }

    /** Lets time pass, and undoes the commit that waits if its time is over; returns the running version. */
    public int advance(int minutes) throws IllegalArgumentException {
        needArgument(minutes, 1, MOST_MINUTES);
        if (minutesLeft > minutes) {
            minutesLeft -= minutes;
        } else if (minutesLeft > 0) {
            minutesLeft = 0;
            addVersion(versions[versionAheadOfCommit]);
        }
        return versionCount - 1;
    }

    /** Returns the running version. */
    public int running() {
        return versionCount - 1;
    }

    /** Returns how many minutes are left to confirm the commit that waits; NONE if none does. */
    public int waiting() {
        return minutesLeft > 0 ? minutesLeft : NONE;
    }

    // ---- configurations

    /** Returns how many entries a section has. */
    public int size(int which, int section) throws IndexOutOfBoundsException {
        return sectionOf(which, section).count;
    }

    /** Returns the key of an entry. */
    public int keyAt(int which, int section, int place) throws IndexOutOfBoundsException {
        return entryOf(which, section, place).key;
    }

    /** Returns what an entry shows of a field; NONE if it shows none. */
    public int shown(int which, int section, int place, int field) throws IndexOutOfBoundsException {
        Entry entry = entryOf(which, section, place);
        needIndex(field, FIELDS);
        return configurationOf(which).valueShown(entry, field);
    }

    /** Returns the own values of an entry and its group, in one number. */
    public int own(int which, int section, int place) throws IndexOutOfBoundsException {
        int[] settings = entryOf(which, section, place).settings;
        return 10000 * (settings[0] + 1) + 10 * (settings[1] + 1) + settings[GROUP] + 1;
    }

    /** Tells whether two configurations are the same. */
    public boolean same(int which, int other) throws IndexOutOfBoundsException {
        return configurationOf(which).isLike(configurationOf(other));
    }

    /** Returns how many edits lead from a configuration to another one. */
    public int edits(int from, int to) throws IndexOutOfBoundsException {
        list.fill(configurationOf(from), configurationOf(to));
        return list.count;
    }

    /** Returns the kind of an edit that leads from a configuration to another one, in one number. */
    public int editAt(int from, int to, int k) throws IndexOutOfBoundsException {
        list.fill(configurationOf(from), configurationOf(to));
        needIndex(k, list.count);
        return list.edits[k].code();
    }

    private static void needIndex(int index, int bound) {
        if (index < 0 || index >= bound) {
            throw new IndexOutOfBoundsException("there is none with this number");
        }
    }

    private static void needArgument(int argument, int least, int most) {
        if (argument < least || argument > most) {
            throw new IllegalArgumentException("an argument is out of range");
        }
    }

    private static void needEntryName(int candidate, int section, int key) {
        needIndex(candidate, CANDIDATES);
        needIndex(section, SECTIONS);
        needIndex(key, KEYS);
    }

    private Configuration openConfiguration(int candidate) {
        Candidate named = candidates[candidate];
        if (!named.isOpen) {
            throw new IllegalStateException("the candidate is not open");
        }
        return named.configuration;
    }

    private static int placeOfEntry(Section section, int key) {
        int place = section.placeOf(key);
        if (place == NONE) {
            throw new IllegalStateException("there is no entry with the key");
        }
        return place;
    }

    private int exchange(int candidate, int section, int key, int setting, int value) {
        Section edited = openConfiguration(candidate).sections[section];
        int[] settings = edited.entries[placeOfEntry(edited, key)].settings;
        int before = settings[setting];
        settings[setting] = value;
        return before;
    }

    private Configuration configurationOf(int which) {
        if (which >= NUMBER_OF_VERSION_0) {
            needIndex(which - NUMBER_OF_VERSION_0, versionCount);
            return versions[which - NUMBER_OF_VERSION_0];
        }
        needIndex(which, CANDIDATES);
        if (!candidates[which].isOpen) {
            throw new IndexOutOfBoundsException("the candidate is not open");
        }
        return candidates[which].configuration;
    }

    private Section sectionOf(int which, int section) {
        Configuration configuration = configurationOf(which);
        needIndex(section, SECTIONS);
        return configuration.sections[section];
    }

    private Entry entryOf(int which, int section, int place) {
        Section entries = sectionOf(which, section);
        needIndex(place, entries.count);
        return entries.entries[place];
    }

    private int brokenRules(Configuration configuration) {
        int broken = 0;
        for (int i = 0; i < ruleCount; i++) {
            if (!rules[i].isKeptBy(configuration)) {
                broken++;
            }
        }
        return broken;
    }

    private void addVersion(Configuration configuration) {
        if (versionCount < MOST_VERSIONS) {
            versions[versionCount].copyFrom(configuration);
            versionCount++;
        }
    }

    /** An entry: its key, and its fields and its group as settings. */
    private static final class Entry {
        int key;
        final int[] settings = new int[SETTINGS];

        void clear(int newKey) {
            key = newKey;
            for (int i = 0; i < SETTINGS; i++) {
                settings[i] = NONE;
            }
        }

        void copyFrom(Entry other) {
            key = other.key;
            for (int i = 0; i < SETTINGS; i++) {
                settings[i] = other.settings[i];
            }
        }

        boolean isLike(Entry other) {
            for (int i = 0; i < SETTINGS; i++) {
                if (settings[i] != other.settings[i]) {
                    return false;
                }
            }
            return key == other.key;
        }
    }

    /** A section: its entries in order; the ones from count on are spare. */
    private static final class Section {
        int count;
        final Entry[] entries = new Entry[MOST_ENTRIES];

        Section() {
            for (int i = 0; i < MOST_ENTRIES; i++) {
                entries[i] = new Entry();
            }
        }

        int placeOf(int key) {
            for (int i = 0; i < count; i++) {
                if (entries[i].key == key) {
                    return i;
                }
            }
            return NONE;
        }

        boolean hasPlace(int place) {
            return place >= 0 && place < count;
        }

        void insert(int place, Entry like) {
            if (count < MOST_ENTRIES && place >= 0 && place <= count) {
                count++;
                shift(count - 1, place);
                entries[place].copyFrom(like);
            }
        }

        void takeOut(int place) {
            if (hasPlace(place)) {
                shift(place, count - 1);
                count--;
            }
        }

        void shift(int place, int target) {
            if (!hasPlace(place) || !hasPlace(target)) {
                return;
            }
            Entry shifted = entries[place];
            for (int i = place; i < target; i++) {
                entries[i] = entries[i + 1];
            }
            for (int i = place; i > target; i--) {
                entries[i] = entries[i - 1];
            }
            entries[target] = shifted;
        }

        void copyFrom(Section other) {
            count = other.count;
            for (int i = 0; i < count; i++) {
                entries[i].copyFrom(other.entries[i]);
            }
        }

        boolean isLike(Section other) {
            if (count != other.count) {
                return false;
            }
            for (int i = 0; i < count; i++) {
                if (!entries[i].isLike(other.entries[i])) {
                    return false;
                }
            }
            return true;
        }
    }

    /** A configuration: its sections, and the fields of its groups. */
    private static final class Configuration {
        final Section[] sections = new Section[SECTIONS];
        final int[][] groups = new int[GROUPS][FIELDS];

        Configuration() {
            for (int i = 0; i < SECTIONS; i++) {
                sections[i] = new Section();
            }
            for (int i = 0; i < GROUPS; i++) {
                for (int j = 0; j < FIELDS; j++) {
                    groups[i][j] = NONE;
                }
            }
        }

        int valueShown(Entry entry, int field) {
            int group = entry.settings[GROUP];
            if (entry.settings[field] != NONE || group < 0 || group >= GROUPS) {
                return entry.settings[field];
            }
            return groups[group][field];
        }

        void copyFrom(Configuration other) {
            for (int i = 0; i < SECTIONS; i++) {
                sections[i].copyFrom(other.sections[i]);
            }
            for (int i = 0; i < GROUPS; i++) {
                for (int j = 0; j < FIELDS; j++) {
                    groups[i][j] = other.groups[i][j];
                }
            }
        }

        boolean isLike(Configuration other) {
            for (int i = 0; i < SECTIONS; i++) {
                if (!sections[i].isLike(other.sections[i])) {
                    return false;
                }
            }
            for (int i = 0; i < GROUPS; i++) {
                for (int j = 0; j < FIELDS; j++) {
                    if (groups[i][j] != other.groups[i][j]) {
                        return false;
                    }
                }
            }
            return true;
        }
    }

    /** A candidate: its configuration and its base, both of use only while it is open. */
    private static final class Candidate {
        boolean isOpen;
        int base;
        final Configuration configuration = new Configuration();
    }

    /** A rule for what the entries of a section show of a field. */
    private static final class Rule {
        int kind;
        int section;
        int field;
        int number;

        boolean isKeptBy(Configuration configuration) {
            int count = configuration.sections[section].count;
            for (int i = 0; i < count; i++) {
                if (!isKeptAt(configuration, i)) {
                    return false;
                }
            }
            return true;
        }

        private boolean isKeptAt(Configuration configuration, int place) {
            int value = shownAt(configuration, place);
            if (value == NONE) {
                return kind != EACH_SHOWS_A_VALUE;
            }
            if (kind == NONE_ABOVE) {
                return value <= number;
            }
            if (kind == KEYS_OF_SECTION) {
                return number < SECTIONS && configuration.sections[number].placeOf(value) != NONE;
            }
            return kind != NO_TWO_ALIKE || !isShownAhead(configuration, place, value);
        }

        private boolean isShownAhead(Configuration configuration, int place, int value) {
            for (int i = 0; i < place; i++) {
                if (shownAt(configuration, i) == value) {
                    return true;
                }
            }
            return false;
        }

        private int shownAt(Configuration configuration, int place) {
            return configuration.valueShown(configuration.sections[section].entries[place], field);
        }
    }

    /**
     * An edit. It leads from a place or value to another one; an addition comes from no place, and a removal
     * leads to none, so that the inverse of each edit exchanges from and to.
     */
    private static final class Edit {
        int kind;
        int section;

        /** The key of the entry, or the number of the group. */
        int key;
        int from;
        int to;

        /** The whole entry, of use for removals and additions alone. */
        final Entry entry = new Entry();

        void become(int newKind, int newSection, int newKey, int newFrom, int newTo) {
            kind = newKind;
            section = newSection;
            key = newKey;
            from = newFrom;
            to = newTo;
        }

        int code() {
            if (kind >= GROUP_SETTING) {
                return 900 + 10 * key + kind - GROUP_SETTING;
            }
            return 100 * section + 10 * key + kind;
        }

        void invert() {
            if (kind == REMOVAL) {
                kind = ADDITION;
            } else if (kind == ADDITION) {
                kind = REMOVAL;
            }
            int before = from;
            from = to;
            to = before;
        }

        /** Returns whether it can be applied; changes nothing if not. */
        boolean applyTo(Configuration configuration, boolean isLoose) {
            if (kind >= GROUP_SETTING) {
                return key < GROUPS && setIn(configuration.groups[key], kind - GROUP_SETTING);
            }
            Section edited = configuration.sections[section];
            int place = edited.placeOf(key);
            if (kind == ADDITION) {
                return place == NONE && addTo(edited, isLoose);
            }
            if (place == NONE) {
                return false;
            }
            if (kind == REMOVAL) {
                return removeFrom(edited, place, isLoose);
            }
            if (kind == MOVE) {
                return moveIn(edited, place, isLoose);
            }
            return setIn(edited.entries[place].settings, kind - SETTING);
        }

        private boolean addTo(Section edited, boolean isLoose) {
            if (edited.count >= MOST_ENTRIES || !isLoose && to > edited.count) {
                return false;
            }
            edited.insert(Math.min(to, edited.count), entry);
            return true;
        }

        private boolean removeFrom(Section edited, int place, boolean isLoose) {
            if (!isLoose && place != from || !edited.entries[place].isLike(entry)) {
                return false;
            }
            edited.takeOut(place);
            return true;
        }

        private boolean moveIn(Section edited, int place, boolean isLoose) {
            if (!isLoose && (place != from || to >= edited.count)) {
                return false;
            }
            edited.shift(place, Math.min(to, edited.count - 1));
            return true;
        }

        private boolean setIn(int[] values, int index) {
            if (index < 0 || index >= values.length || values[index] != from) {
                return false;
            }
            values[index] = to;
            return true;
        }
    }

    /** The edits that lead from a configuration to another one. */
    private static final class EditList {
        int count;
        final Edit[] edits = new Edit[MOST_EDITS];

        /** What the edits so far have left of a section. */
        private final Section left = new Section();

        EditList() {
            for (int i = 0; i < MOST_EDITS; i++) {
                edits[i] = new Edit();
            }
        }

        void fill(Configuration from, Configuration to) {
            count = 0;
            for (int i = 0; i < SECTIONS; i++) {
                left.copyFrom(from.sections[i]);
                noteRemovals(i, to.sections[i]);
                notePlaces(i, to.sections[i]);
                noteSettings(i, from.sections[i], to.sections[i]);
            }
            for (int i = 0; i < GROUPS; i++) {
                for (int j = 0; j < FIELDS; j++) {
                    noteIfUnlike(GROUP_SETTING + j, 0, i, from.groups[i][j], to.groups[i][j]);
                }
            }
        }

        void invert() {
            for (int i = 0, j = count - 1; i < j; i++, j--) {
                Edit first = edits[i];
                edits[i] = edits[j];
                edits[j] = first;
            }
            for (int i = 0; i < count; i++) {
                edits[i].invert();
            }
        }

        /** Returns whether all of them can be applied, each behind the ones ahead of it. */
        boolean applyTo(Configuration configuration, boolean isLoose) {
            for (int i = 0; i < count; i++) {
                if (!edits[i].applyTo(configuration, isLoose)) {
                    return false;
                }
            }
            return true;
        }

        private void noteRemovals(int section, Section to) {
            for (int i = left.count - 1; i >= 0; i--) {
                Entry entry = left.entries[i];
                if (to.placeOf(entry.key) == NONE) {
                    noteWhole(REMOVAL, section, entry, i, NONE);
                    left.takeOut(i);
                }
            }
        }

        private void notePlaces(int section, Section to) {
            for (int i = 0; i < to.count; i++) {
                Entry entry = to.entries[i];
                int place = left.placeOf(entry.key);
                if (place == NONE) {
                    noteWhole(ADDITION, section, entry, NONE, i);
                    left.insert(i, entry);
                } else if (place != i) {
                    note(MOVE, section, entry.key, place, i);
                    left.shift(place, i);
                }
            }
        }

        private void noteSettings(int section, Section from, Section to) {
            for (int key = 0; key < KEYS; key++) {
                int before = from.placeOf(key);
                int behind = to.placeOf(key);
                if (before != NONE && behind != NONE) {
                    int[] old = from.entries[before].settings;
                    int[] due = to.entries[behind].settings;
                    for (int i = 0; i < SETTINGS; i++) {
                        noteIfUnlike(SETTING + i, section, key, old[i], due[i]);
                    }
                }
            }
        }

        private void noteIfUnlike(int kind, int section, int key, int from, int to) {
            if (from != to) {
                note(kind, section, key, from, to);
            }
        }

        private void noteWhole(int kind, int section, Entry entry, int from, int to) {
            if (count < MOST_EDITS) {
                edits[count].entry.copyFrom(entry);
                note(kind, section, entry.key, from, to);
            }
        }

        private void note(int kind, int section, int key, int from, int to) {
            if (count < MOST_EDITS) {
                edits[count].become(kind, section, key, from, to);
                count++;
            }
        }
    }
}
