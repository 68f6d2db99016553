import java.util.List;
import java.util.function.Consumer;
import java.util.function.Supplier;

/** The edges of the promises 13 to 17, and of what the terms say of edits that are applied loosely. */
public final class CommitEdgesTest {
    private static final Class<? extends RuntimeException> INDEX = Edge.INDEX;
    private static final Class<? extends RuntimeException> ARGUMENT = Edge.ARGUMENT;
    private static final Class<? extends RuntimeException> STATE = Edge.STATE;

    /** The sections have no entry, the keys 9, 0, 5, 1, 3, 7 and the keys 4, 8, 2. */
    private static final Supplier<ConfigDesk> OPEN = Desks.OPEN;

    public static void main(String[] args) {
        ranges();
        minutesOfACommit();
        stateAlone();
        firstException();
        versionsUpToTheLimit();
        notOpenThen();
        rulesOfTheNewVersion();
        looseRemoval();
        looseAdditionPlace();
        looseAdditionToSix();
        looseMove();
        looseSettings();
        confirm();
        confirmKeeps();
        advance();
        advanceJustUnderAndJustOver();
        advanceCountsFromTheCommit();
        advanceGoesBack();
        runningAndWaiting();
        Check.end("CommitEdgesTest");
    }

    private static Supplier<ConfigDesk> edited(Supplier<ConfigDesk> desks, Consumer<ConfigDesk> edits) {
        return () -> {
            ConfigDesk desk = desks.get();
            edits.accept(desk);
            return desk;
        };
    }

    private static void ranges() {
        Edge.candidates("commit", OPEN, 2, 2, (desk, n) -> desk.commit(n, 0));
        Edge.range(ARGUMENT, "commit for minutes", OPEN, 0, 2, 100, 2, (desk, n) -> desk.commit(0, n));
    }

    /** "0 to 100: how long there is time to confirm; 0 if no confirming is needed" */
    private static void minutesOfACommit() {
        for (int i = 0; i <= 100; i++) {
            int minutes = i;
            ConfigDesk desk = OPEN.get();
            desk.commit(1, minutes);
            Check.is(minutes == 0 ? -1 : minutes, "waiting", () -> desk.waiting());
            Check.is(2, "running", () -> desk.running());
        }
    }

    /** The candidate 0 sets a value that the version which runs by now has otherwise. */
    private static Supplier<ConfigDesk> cannotBeApplied() {
        return edited(OPEN, desk -> {
            desk.set(1, 2, 4, 0, 1);
            desk.commit(1, 0);
            desk.set(0, 2, 4, 0, 2);
        });
    }

    private static Supplier<ConfigDesk> wouldNotKeepARule() {
        return edited(OPEN, desk -> desk.rule(0, 2, 1, 0));
    }

    private static void stateAlone() {
        Edge.refused(STATE, "where none is open", ConfigDesk::new, desk -> desk.commit(0, 0));
        Edge.refused(STATE, "closed", Desks.closing(0, OPEN), desk -> desk.commit(0, 0));
        Edge.refused(STATE, "a commit waits", Desks.waiting(5), desk -> desk.commit(0, 0));
        Edge.refused(STATE, "a commit waits", Desks.waiting(5), desk -> desk.commit(0, 6));
        Edge.refused(STATE, "a commit waits for its last minute", edited(Desks.waiting(100), desk -> desk.advance(99)),
            desk -> desk.commit(1, 100));
        Edge.refused(STATE, "29 versions", Desks.versions(29), desk -> desk.commit(0, 0));
        Edge.refused(STATE, "29 versions", Desks.versions(29), desk -> desk.commit(0, 1));
        Edge.refused(STATE, "30 versions", Desks.versions(30), desk -> desk.commit(0, 0));
        Edge.refused(STATE, "30 versions", Desks.versions(30), desk -> desk.commit(2, 100));
        Edge.refused(STATE, "an edit does not fit", cannotBeApplied(), desk -> desk.commit(0, 0));
        Edge.refused(STATE, "an edit does not fit", cannotBeApplied(), desk -> desk.commit(0, 7));
        Edge.refused(STATE, "a rule", wouldNotKeepARule(), desk -> desk.commit(0, 0));
        Edge.refused(STATE, "a rule", wouldNotKeepARule(), desk -> desk.commit(0, 7));
    }

    private static void firstException() {
        for (Supplier<ConfigDesk> desks : List.of(OPEN, Desks.closing(0, OPEN), Desks.waiting(5), Desks.versions(29),
                Desks.versions(30), cannotBeApplied(), wouldNotKeepARule())) {
            for (int minutes : new int[] {-1, 101}) {
                Edge.refused(INDEX, "no candidate, no minutes", desks, desk -> desk.commit(-1, minutes));
                Edge.refused(INDEX, "no candidate, no minutes", desks, desk -> desk.commit(3, minutes));
                Edge.refused(ARGUMENT, "no minutes", desks, desk -> desk.commit(0, minutes));
            }
            Edge.refused(INDEX, "no candidate", desks, desk -> desk.commit(3, 0));
        }
    }

    /** "there are 29 versions or more" */
    private static void versionsUpToTheLimit() {
        for (int i = 0; i <= 1; i++) {
            int minutes = i;
            Edge.answers(27, "the 28th version", Desks.versions(27), desk -> desk.commit(0, minutes));
            Edge.answers(28, "the 29th version", Desks.versions(28), desk -> desk.commit(0, minutes));
        }
        ConfigDesk desk = Desks.versions(28).get();
        desk.add(1, 0, 3, 0);
        desk.commit(1, 5);
        Check.noState("there are 29, and one waits", () -> desk.commit(0, 0));
        desk.confirm();
        Check.noState("there are 29, and none waits", () -> desk.commit(0, 0));
        Check.is(28, "time passes", () -> desk.advance(100));
        Check.is(1, "the last one stays", () -> desk.size(38, 0));
        Check.noIndex("there is no 30th", () -> desk.size(39, 0));

        ConfigDesk undone = Desks.versions(28).get();
        undone.add(1, 0, 3, 0);
        undone.commit(1, 5);
        Check.is(28, "just not undone", () -> undone.advance(4));
        Check.is(29, "the 30th version undoes it", () -> undone.advance(1));
        Check.is(1, "it is as the 28th", () -> Desks.same(undone, 39, 37));
        Check.is(0, "it is not as the 29th", () -> Desks.same(undone, 39, 38));
        Check.noState("there are 30", () -> undone.commit(0, 0));
        Check.is(29, "time passes", () -> undone.advance(100));
        Check.noIndex("there is no 31st", () -> undone.size(40, 0));
        Check.is(29, "the base of a candidate", () -> undone.open(0));
    }

    private static void notOpenThen() {
        Supplier<ConfigDesk> closed = Desks.closing(0, OPEN);
        Edge.refused(STATE, "commit twice", closed, desk -> desk.commit(0, 0));
        Edge.refused(INDEX, "size", closed, desk -> desk.size(0, 1));
        Edge.refused(STATE, "add", closed, desk -> desk.add(0, 0, 1, 0));
        Edge.answers(2, "open again", closed, desk -> desk.open(0));
        Edge.answers(6, "the others are open", closed, desk -> desk.size(1, 1) + desk.size(2, 0));
        ConfigDesk desk = cannotBeApplied().get();
        Check.noState("refused", () -> desk.commit(0, 0));
        Check.is(2, "it is open still", () -> desk.set(0, 2, 4, 0, 44));
        Check.is(3, "it fits now", () -> desk.commit(0, 0));
        Check.is(1, "what the other one set has stayed", () -> desk.shown(13, 2, 0, 0));
    }

    /** "or the new version would not keep a rule": it is not the candidate that must keep it, nor what ran ahead. */
    private static void rulesOfTheNewVersion() {
        Supplier<ConfigDesk> desks = edited(OPEN, desk -> {
            desk.set(1, 2, 4, 0, 10);
            desk.commit(1, 0);
            desk.rule(1, 2, 0, 88);
            desk.rule(3, 2, 0, 0);
        });
        Edge.answers(3, "no edits", desks, desk -> desk.commit(0, 0));
        Supplier<ConfigDesk> alike = edited(desks, desk -> desk.set(0, 2, 8, 0, 10));
        Edge.answers(0, "the candidate keeps all", alike, desk -> desk.faults(0));
        Edge.refused(STATE, "the new version has two alike", alike, desk -> desk.commit(0, 0));
        Supplier<ConfigDesk> old = edited(desks, desk -> desk.set(0, 2, 8, 0, 44));
        Edge.answers(1, "the candidate has two alike", old, desk -> desk.faults(0));
        Edge.answers(3, "the new version has not", old, desk -> desk.commit(0, 0));
        Supplier<ConfigDesk> most = edited(desks, desk -> desk.set(0, 2, 2, 0, 88));
        Edge.refused(STATE, "just as high, but there is one alike", most, desk -> desk.commit(0, 0));
        Edge.refused(STATE, "just above", edited(desks, desk -> desk.set(0, 2, 8, 0, 89)), desk -> desk.commit(0, 0));
        Supplier<ConfigDesk> mends = edited(OPEN, desk -> {
            desk.rule(1, 2, 0, 87);
            desk.set(0, 2, 8, 0, 87);
        });
        Edge.answers(1, "the version that runs does not keep the rule", mends, desk -> desk.faults(11));
        Edge.answers(2, "the new one does", mends, desk -> desk.commit(0, 0));
        Edge.refused(STATE, "no edits do not mend it", mends, desk -> desk.commit(1, 0));
    }

    /**
     * The candidate 1 is committed first, the candidate 0 behind it: its edits lead from the version 1, and go to the
     * version 2. The section that comes of them is as told.
     */
    private static void goes(String what, int section, String keys, Consumer<ConfigDesk> edits) {
        ConfigDesk desk = edited(OPEN, edits).get();
        desk.commit(1, 0);
        Check.is(3, what, () -> desk.commit(0, 0));
        Check.compare(keys, what + ", then the section", Check.keys(desk, 13, section));
    }

    private static void isRefused(String what, Consumer<ConfigDesk> edits) {
        Supplier<ConfigDesk> desks = Desks.closing(1, edited(OPEN, edits));
        Edge.refused(STATE, what, desks, desk -> desk.commit(0, 0));
        Edge.refused(STATE, what + ", and is not waited for", desks, desk -> desk.commit(0, 10));
    }

    /** "an entry with this key and the same fields and group, at any place" */
    private static void looseRemoval() {
        for (int i = 0; i < 6; i++) {
            int place = i;
            String others = "90137";
            goes("it is at " + place, 1, others, desk -> {
                desk.remove(0, 1, 5);
                desk.move(1, 1, 5, place);
            });
        }
        goes("it is the only one", 1, "", desk -> {
            desk.remove(0, 1, 5);
            for (int i = 0; i < 5; i++) {
                desk.remove(1, 1, "90137".charAt(i) - '0');
            }
        });
        isRefused("it has gone", desk -> {
            desk.remove(0, 1, 5);
            desk.remove(1, 1, 5);
        });
        for (int i = 0; i < 2; i++) {
            int field = i;
            for (int value : new int[] {-1, 0, 99}) {
                if (field == 0 || value != -1) {
                    isRefused("it has another value", desk -> {
                        desk.remove(0, 1, 5);
                        desk.set(1, 1, 5, field, value);
                    });
                }
            }
        }
        for (int i = -1; i < 2; i++) {
            int group = i;
            isRefused("it has another group", desk -> {
                desk.remove(0, 1, 5);
                desk.join(1, 1, 5, group);
            });
        }
        isRefused("it is in another section only", desk -> {
            desk.remove(0, 2, 4);
            desk.remove(1, 2, 4);
            desk.add(1, 0, 4, 0);
        });
    }

    /** "it goes to its place, or to the end, if there are not so many entries" */
    private static void looseAdditionPlace() {
        goes("more entries than its place tells", 2, "74862", desk -> {
            desk.add(0, 2, 6, 3);
            desk.add(1, 2, 7, 0);
        });
        goes("just as many", 2, "4826", desk -> desk.add(0, 2, 6, 3));
        goes("one less", 2, "486", desk -> {
            desk.add(0, 2, 6, 3);
            desk.remove(1, 2, 2);
        });
        goes("none", 2, "6", desk -> {
            desk.add(0, 2, 6, 3);
            Desks.load(desk, 1, 0);
        });
        goes("to the start", 2, "6482", desk -> desk.add(0, 2, 6, 0));
        goes("to the start of what another has added", 0, "67", desk -> {
            desk.add(0, 0, 6, 0);
            desk.add(1, 0, 7, 0);
        });
        isRefused("the key is there", desk -> {
            desk.add(0, 2, 6, 3);
            desk.add(1, 2, 6, 0);
        });
    }

    /** "there are not 6" */
    private static void looseAdditionToSix() {
        goes("there are 5", 0, "601234", desk -> {
            desk.add(0, 0, 6, 0);
            addFive(desk, 1);
        });
        isRefused("there are 6", desk -> {
            desk.add(0, 0, 6, 0);
            addFive(desk, 1);
            desk.add(1, 0, 5, 0);
        });
        goes("five behind one", 0, "012345", desk -> {
            addFive(desk, 0);
            desk.add(1, 0, 5, 0);
        });
        isRefused("five behind two: the last one does not fit", desk -> {
            addFive(desk, 0);
            desk.add(1, 0, 5, 0);
            desk.add(1, 0, 6, 0);
        });
        goes("a removal from six ahead of an addition", 1, "051378", desk -> {
            desk.remove(0, 1, 9);
            desk.add(0, 1, 8, 5);
        });
        goes("four are left, its place is the sixth", 1, "05138", desk -> {
            desk.remove(0, 1, 9);
            desk.add(0, 1, 8, 5);
            desk.remove(1, 1, 7);
        });
    }

    private static void addFive(ConfigDesk desk, int candidate) {
        for (int key = 0; key < 5; key++) {
            desk.add(candidate, 0, key, key);
        }
    }

    /** "it goes to the second place, or to the last one, if there are not so many entries" */
    private static void looseMove() {
        goes("from where it was", 1, "790513", desk -> desk.move(0, 1, 7, 0));
        goes("from another place", 1, "790513", desk -> {
            desk.move(0, 1, 7, 0);
            desk.move(1, 1, 7, 3);
        });
        goes("from the place that it goes to", 1, "790513", desk -> {
            desk.move(0, 1, 7, 0);
            desk.move(1, 1, 7, 0);
        });
        goes("whatever it has", 1, "790513", desk -> {
            desk.move(0, 1, 7, 0);
            desk.set(1, 1, 7, 0, 1);
        });
        goes("six entries, the second place is the fifth", 1, "905173", desk -> {
            moveToTheFifth(desk);
            desk.move(1, 1, 7, 0);
        });
        goes("five entries, it is the last one", 1, "90517", desk -> {
            moveToTheFifth(desk);
            desk.remove(1, 1, 3);
            desk.move(1, 1, 7, 0);
        });
        goes("four entries, it is just not there", 1, "9057", desk -> {
            moveToTheFifth(desk);
            desk.remove(1, 1, 3);
            desk.remove(1, 1, 1);
            desk.move(1, 1, 7, 0);
        });
        goes("one entry", 1, "7", desk -> {
            moveToTheFifth(desk);
            for (int i = 0; i < 5; i++) {
                desk.remove(1, 1, "90513".charAt(i) - '0');
            }
        });
        isRefused("it has gone", desk -> {
            moveToTheFifth(desk);
            desk.remove(1, 1, 7);
        });
    }

    /** One edit: from 905137 to 905173, the key 7 is moved to the place 4. */
    private static void moveToTheFifth(ConfigDesk desk) {
        desk.move(0, 1, 7, 4);
    }

    /** "for a setting, as exactly" */
    private static void looseSettings() {
        goes("other settings of the entry", 2, "482", desk -> {
            desk.set(0, 2, 8, 0, 5);
            desk.set(1, 2, 8, 1, 6);
            desk.join(1, 2, 8, 1);
        });
        goes("at another place", 2, "842", desk -> {
            desk.set(0, 2, 8, 0, 5);
            desk.move(1, 2, 8, 0);
        });
        for (int value : new int[] {-1, 0, 5, 99}) {
            isRefused("the field has another value before", desk -> {
                desk.set(0, 2, 8, 0, 5);
                desk.set(1, 2, 8, 0, value);
            });
            isRefused("the group has another value before", desk -> {
                desk.setGroup(0, 1, 1, 5);
                desk.setGroup(1, 1, 1, value);
            });
        }
        for (int value : new int[] {0, 5, 99}) {
            isRefused("the field had none before", desk -> {
                desk.set(0, 2, 8, 1, 5);
                desk.set(1, 2, 8, 1, value);
            });
            isRefused("the group had none before", desk -> {
                desk.setGroup(0, 1, 0, 5);
                desk.setGroup(1, 1, 0, value);
            });
        }
        for (int i = 0; i < 3; i++) {
            int group = i;
            isRefused("it had no group before", desk -> {
                desk.join(0, 2, 8, 2);
                desk.join(1, 2, 8, group);
            });
        }
        isRefused("the entry has gone", desk -> {
            desk.set(0, 2, 8, 0, 5);
            desk.remove(1, 2, 8);
        });
        isRefused("the last edit of many does not fit", desk -> {
            desk.add(0, 0, 1, 0);
            desk.remove(0, 1, 5);
            desk.move(0, 2, 2, 0);
            desk.setGroup(0, 2, 1, 1);
            desk.setGroup(1, 2, 1, 2);
        });
    }

    private static void confirm() {
        Edge.refused(STATE, "none has been committed", ConfigDesk::new, desk -> desk.confirm());
        Edge.refused(STATE, "no confirming is needed", OPEN, desk -> desk.confirm());
        Edge.refused(STATE, "confirmed", edited(Desks.waiting(5), desk -> desk.confirm()), desk -> desk.confirm());
        Edge.refused(STATE, "undone", edited(Desks.waiting(5), desk -> desk.advance(5)), desk -> desk.confirm());
        Edge.refused(STATE, "undone later", edited(Desks.waiting(5), desk -> desk.advance(6)), desk -> desk.confirm());
        for (int i = 1; i <= 100; i++) {
            int minutes = i;
            Edge.answers(minutes, "at once", Desks.waiting(minutes), desk -> desk.confirm());
            if (minutes > 1) {
                Edge.answers(1, "in the last minute", edited(Desks.waiting(minutes), desk -> desk.advance(minutes - 1)),
                    desk -> desk.confirm());
                Edge.answers(minutes - 1, "behind a minute", edited(Desks.waiting(minutes), desk -> desk.advance(1)),
                    desk -> desk.confirm());
            }
        }
    }

    private static void confirmKeeps() {
        ConfigDesk desk = Desks.waiting(2).get();
        desk.advance(1);
        desk.confirm();
        Check.is(-1, "nothing waits", () -> desk.waiting());
        Check.is(2, "the version runs", () -> desk.running());
        Check.is(2, "its minutes pass", () -> desk.advance(1));
        Check.is(2, "and more", () -> desk.advance(100));
        Check.is(1, "it is as it was committed", () -> desk.size(12, 0));
        Check.is(3, "another commit", () -> desk.commit(0, 0));
        Check.is(1, "it has both", () -> desk.size(13, 0));
    }

    private static void advance() {
        Edge.range(ARGUMENT, "advance, where nothing waits,", OPEN, 1, 1, 100, 1, (desk, n) -> desk.advance(n));
        Edge.range(ARGUMENT, "advance, where 100 minutes are left,", Desks.waiting(100), 1, 2, 100, 3,
            (desk, n) -> desk.advance(n));
        Edge.range(ARGUMENT, "advance, where a minute is left,", Desks.waiting(1), 1, 3, 100, 3,
            (desk, n) -> desk.advance(n));
        Edge.range(ARGUMENT, "advance on a new desk", ConfigDesk::new, 1, 0, 100, 0, (desk, n) -> desk.advance(n));
    }

    /** "as many minutes as it had, or more, have passed since it by then" */
    private static void advanceJustUnderAndJustOver() {
        for (int i = 1; i <= 100; i++) {
            int minutes = i;
            Supplier<ConfigDesk> desks = Desks.waiting(minutes);
            if (minutes > 1) {
                Edge.answers(2, "one less than " + minutes, desks, desk -> desk.advance(minutes - 1));
                Supplier<ConfigDesk> late = edited(desks, desk -> desk.advance(minutes - 1));
                Edge.answers(1, "one is left", late, desk -> desk.waiting());
                Edge.answers(3, "then just " + minutes, late, desk -> desk.advance(1));
                Edge.answers(3, "then one more than " + minutes, late, desk -> desk.advance(2));
                Edge.answers(3, "then far more", late, desk -> desk.advance(100));
            }
            Edge.answers(3, "just " + minutes, desks, desk -> desk.advance(minutes));
            if (minutes < 100) {
                Edge.answers(3, "one more than " + minutes, desks, desk -> desk.advance(minutes + 1));
            }
            ConfigDesk desk = desks.get();
            for (int passed = 1; passed < minutes; passed++) {
                desk.advance(1);
            }
            Check.is(2, "one less, minute by minute", () -> desk.running());
            Check.is(3, "all of them, minute by minute", () -> desk.advance(1));
            Check.is(-1, "nothing waits then", () -> desk.waiting());
            Check.noState("nothing can be confirmed", () -> desk.confirm());
            Check.is(1, "it is as ahead of the commit", () -> Desks.same(desk, 13, 11));
            Check.is(3, "it is undone once", () -> desk.advance(minutes));
        }
    }

    private static void advanceCountsFromTheCommit() {
        ConfigDesk desk = OPEN.get();
        desk.advance(100);
        desk.advance(100);
        desk.commit(0, 2);
        Check.is(2, "time ahead of it does not count", () -> desk.waiting());
        Check.is(2, "one of two minutes", () -> desk.advance(1));
        desk.confirm();
        desk.commit(1, 2);
        Check.is(3, "the minute of the one ahead does not count", () -> desk.advance(1));
        Check.is(4, "two of two minutes", () -> desk.advance(1));
        desk.commit(2, 2);
        Check.is(5, "nor do those of one that was undone", () -> desk.advance(1));
        Check.is(6, "two of two minutes", () -> desk.advance(1));
    }

    /** "the configuration that was running ahead of the commit, whether or not it keeps the rules" */
    private static void advanceGoesBack() {
        ConfigDesk desk = OPEN.get();
        desk.rule(0, 0, 0, 0);
        desk.add(0, 0, 6, 0);
        desk.set(0, 0, 6, 0, 1);
        desk.commit(0, 1);
        desk.open(0);
        for (int i = 1; i < 8; i++) {
            desk.rule(1, 1, 0, 1);
        }
        Check.is(7, "what ran ahead of it does not keep seven rules", () -> desk.faults(11));
        Check.is(3, "it comes back", () -> desk.advance(1));
        Check.is(7, "and does not keep them", () -> desk.faults(13));
        Check.is(1, "it is as it was", () -> Desks.same(desk, 13, 11));
        Check.is(1, "the version that was undone is there", () -> desk.size(12, 0));
        Check.is(1, "a candidate that was opened from it stays", () -> Desks.same(desk, 0, 12));
        Check.is(0, "no edits lead to it from its base", () -> desk.edits(12, 0));
        Check.is(3, "the base of another one", () -> desk.open(1));
    }

    private static void runningAndWaiting() {
        for (int count : new int[] {2, 28, 29, 30}) {
            Edge.answers(count - 1, "running, of " + count, Desks.versions(count), desk -> desk.running());
            Edge.answers(-1, "waiting, of " + count, Desks.versions(count), desk -> desk.waiting());
        }
        Edge.answers(0, "running on a new desk", ConfigDesk::new, desk -> desk.running());
        Edge.answers(-1, "waiting on a new desk", ConfigDesk::new, desk -> desk.waiting());
        for (int i = 1; i <= 100; i++) {
            int minutes = i;
            Edge.answers(minutes, "waiting", Desks.waiting(minutes), desk -> desk.waiting());
            Edge.answers(2, "running what waits", Desks.waiting(minutes), desk -> desk.running());
            Edge.answers(minutes < 100 ? 100 - minutes : -1, "what is left of 100 behind " + minutes,
                edited(Desks.waiting(100), desk -> desk.advance(minutes)), desk -> desk.waiting());
        }
    }
}
