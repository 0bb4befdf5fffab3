/** Boundaries of promises 39 to 45: changes of one replica, and merges. */
final class ChangeBoundaries {
    private static final String NO_COUNTER = "Throws `IndexOutOfBoundsException` if there is no such replica or counter";
    private static final String NO_TAG = "Throws `IndexOutOfBoundsException` if there is no such replica, or tag is not 0 to 15";
    private static final String FIRST_LISTED =
            "If several exceptions apply to one call, the method throws the one that is listed first.";
    private static final int[] BEYOND_4 = {Integer.MIN_VALUE, -1, 4, Integer.MAX_VALUE};

    private ChangeBoundaries() {
    }

    static void addTo(Sentences sentences) {
        addCounting(sentences);
        addTags(sentences);
        addWriting(sentences);
        addMerging(sentences);
    }

    private static void addCounting(Sentences sentences) {
        sentences.test(39, "`amount`: 1 to 99", ChangeBoundaries::incrementsBy1To99);
        sentences.test(39, NO_COUNTER, ChangeBoundaries::incrementThrows);
        sentences.test(39, "Throws `IllegalArgumentException` if amount is out of range", due -> Refusals.range(due,
                Refusals.BAD_ARGUMENT, Worlds::busy, 1, 99, (notes, amount) -> notes.increment(0, 0, amount)));
        sentences.test(39, FIRST_LISTED, due -> wrongIndexAndNumber(due, Notes::increment, 0));
        sentences.test(40, "`amount`: 1 to 99", ChangeBoundaries::decrementsBy1To99);
        sentences.test(40, NO_COUNTER, ChangeBoundaries::decrementThrows);
        sentences.test(40, "Throws `IllegalArgumentException` if amount is out of range", due -> Refusals.range(due,
                Refusals.BAD_ARGUMENT, Worlds::busy, 1, 99, (notes, amount) -> notes.decrement(0, 0, amount)));
        sentences.test(40, FIRST_LISTED, due -> wrongIndexAndNumber(due, Notes::decrement, 0));
    }

    private static void addTags(Sentences sentences) {
        sentences.test(41, "its sequence number is 1 greater than the entry of this replica in its own version vector, and"
                + " that entry is increased to this number.", ChangeBoundaries::nextNumbers);
        sentences.test(41, "Adds a tag, which may be present.", ChangeBoundaries::addedAgain);
        sentences.test(41, "When a replica adds a tag, the tag gets the new dot as its only live dot in the state of this"
                + " replica.", ChangeBoundaries::onlyLiveDot);
        sentences.test(41, "`tag`: 0 to 15", ChangeBoundaries::addedFrom0To15);
        sentences.test(41, NO_TAG, ChangeBoundaries::addTagThrows);
        sentences.test(42, "When a replica removes a tag, all live dots of the tag are removed from the state of this replica.",
                ChangeBoundaries::allDotsAreRemoved);
        sentences.test(42, "Returns the number of live dots that were removed.", ChangeBoundaries::removedFrom1To4);
        sentences.test(42, "`tag`: 0 to 15", ChangeBoundaries::removedFrom0To15);
        sentences.test(42, NO_TAG, ChangeBoundaries::removeTagThrows);
        sentences.test(42, "Throws `IllegalStateException` if the tag is not present", ChangeBoundaries::absentTagIsRefused);
        sentences.test(42, FIRST_LISTED, ChangeBoundaries::wrongIndexAndAbsentTag);
    }

    private static void addWriting(Sentences sentences) {
        sentences.test(43, "an entry consists of a live dot and a value from 0 to 99.", ChangeBoundaries::eachValue);
        sentences.test(43, "`value`: 0 to 99", ChangeBoundaries::leastAndGreatestValue);
        sentences.test(43, "When a replica writes a register, the new dot with the value replaces all entries of the register"
                + " in the state of this replica.", ChangeBoundaries::allEntriesAreReplaced);
        sentences.test(43, "When a replica adds a tag or writes a register, it creates a dot of its own",
                ChangeBoundaries::tagsAndRegistersShareNumbers);
        sentences.test(43, "Returns the number of entries that were replaced.", ChangeBoundaries::replacedFrom0To4);
        sentences.test(43, "Throws `IndexOutOfBoundsException` if there is no such replica or register",
                ChangeBoundaries::writeThrows);
        sentences.test(43, "Throws `IllegalArgumentException` if value is out of range", due -> Refusals.range(due,
                Refusals.BAD_ARGUMENT, Worlds::busy, 0, 99, (notes, value) -> notes.write(0, 0, value)));
        sentences.test(43, FIRST_LISTED, due -> wrongIndexAndNumber(due, Notes::write, -1));
    }

    private static void addMerging(Sentences sentences) {
        sentences.test(44, "`source`: a replica, possibly the same one", ChangeBoundaries::mergeWithItself);
        sentences.test(44, "Returns true if the target changed.", ChangeBoundaries::changedOrNot);
        sentences.test(44, "Throws `IndexOutOfBoundsException` if one of the replicas does not exist",
                ChangeBoundaries::mergeThrows);
        sentences.test(45, "Merges the states of all replicas into each replica, so that all states are equal.",
                ChangeBoundaries::allAreEqual);
        sentences.test(45, "Returns the number of replicas that changed.", ChangeBoundaries::changedFrom0To4);
    }

    private interface Change {
        int of(Notes notes, int replica, int place, int number);
    }

    /** The index is told before the number, whichever index it is. */
    private static void wrongIndexAndNumber(Checks due, Change change, int tooSmall) {
        for (int wrong : BEYOND_4) {
            for (int number : new int[] {Integer.MIN_VALUE, tooSmall, 100, Integer.MAX_VALUE}) {
                Refusals.refused(due, Refusals.NO_INDEX, () -> Worlds.busy(4, 4, 4, 2), "replica " + wrong + " with " + number,
                        notes -> change.of(notes, wrong, 0, number));
                Refusals.refused(due, Refusals.NO_INDEX, () -> Worlds.busy(4, 4, 4, 2), "place " + wrong + " with " + number,
                        notes -> change.of(notes, 0, wrong, number));
            }
        }
        Refusals.refused(due, Refusals.BAD_ARGUMENT, () -> Worlds.busy(4, 4, 4, 2), "the last indices with 100",
                notes -> change.of(notes, 3, 3, 100));
    }

    // ---- counting

    private static void incrementsBy1To99(Checks due) {
        Notes notes = Worlds.empty(4, 4, 0);
        int sum = 0;
        for (int amount = 1; amount <= 99; amount++) {
            sum += amount;
            due.equal("increment by " + amount, notes.increment(3, 3, amount), sum);
        }
        due.equal("the increments", notes.increments(3, 3, 3), 4950);
        due.equal("the decrements", notes.decrements(3, 3, 3), 0);
        for (int amount : new int[] {Integer.MIN_VALUE, -1, 0, 100, Integer.MAX_VALUE}) {
            due.badArgument("increment by " + amount, () -> notes.increment(3, 3, amount));
        }
        due.equal("the increments after wrong ones", notes.increments(3, 3, 3), 4950);
    }

    private static void incrementThrows(Checks due) {
        Refusals.replicas(due, (notes, replica) -> notes.increment(replica, 0, 1));
        Refusals.counters(due, (notes, counter) -> notes.increment(0, counter, 99));
    }

    private static void decrementsBy1To99(Checks due) {
        Notes notes = Worlds.empty(4, 4, 0);
        int sum = 0;
        for (int amount = 1; amount <= 99; amount++) {
            sum -= amount;
            due.equal("decrement by " + amount, notes.decrement(3, 3, amount), sum);
        }
        due.equal("the decrements", notes.decrements(3, 3, 3), 4950);
        due.equal("the increments", notes.increments(3, 3, 3), 0);
        for (int amount : new int[] {Integer.MIN_VALUE, -1, 0, 100, Integer.MAX_VALUE}) {
            due.badArgument("decrement by " + amount, () -> notes.decrement(3, 3, amount));
        }
        due.equal("the decrements after wrong ones", notes.decrements(3, 3, 3), 4950);
    }

    private static void decrementThrows(Checks due) {
        Refusals.replicas(due, (notes, replica) -> notes.decrement(replica, 0, 1));
        Refusals.counters(due, (notes, counter) -> notes.decrement(0, counter, 99));
    }

    // ---- tags

    private static void nextNumbers(Checks due) {
        Notes notes = Worlds.empty(4, 0, 1);
        due.equal("the first dot", notes.addTag(3, 0), 1);
        due.equal("the entry after it", notes.versionEntry(3, 3), 1);
        due.equal("the second dot", notes.addTag(3, 0), 2);
        notes.write(3, 0, 5);
        due.equal("the dot after a write", notes.addTag(3, 1), 4);
        due.equal("the entry after it", notes.versionEntry(3, 3), 4);
        notes.removeTag(3, 1);
        due.equal("the dot after a removal", notes.addTag(3, 1), 5);
        notes.merge(0, 3);
        due.equal("the first dot of another one", notes.addTag(0, 1), 1);
        due.equal("its entry", notes.versionEntry(0, 0), 1);
        due.equal("its entry for the other one", notes.versionEntry(0, 3), 5);
        notes.undo();
        due.equal("the dot after an undo", notes.addTag(0, 2), 1);
    }

    private static void addedAgain(Checks due) {
        Notes notes = Texts.loaded("replicas 2 0 0; add 0 p");
        due.equal("addTag of a present tag", notes.addTag(0, 15), 2);
        due.equal("its dot", notes.tagDot(0, 15, 0), 2);
        due.equal("tagCount after it", notes.tagCount(0), 1);
        notes.merge(1, 0);
        due.equal("addTag of a tag that another one has added", notes.addTag(1, 15), 1);
        due.equal("the dots of both", notes.tagDot(1, 15, 0) * 10 + notes.tagDot(1, 15, 1), 1);
    }

    private static void onlyLiveDot(Checks due) {
        for (int dots = 0; dots <= 4; dots++) {
            Notes notes = Texts.loaded("replicas 4 0 1;add 0 p;add 1 p;add 2 p;add 3 p;write 0 0 5");
            for (int replica = 1; replica < dots; replica++) {
                notes.merge(0, replica);
            }
            int tag = dots == 0 ? 14 : 15;
            due.equal("the dots before", notes.liveDots(0, tag), dots);
            due.equal("addTag", notes.addTag(0, tag), 3);
            due.equal("the dots after it", notes.liveDots(0, tag), 1);
            due.equal("the new dot", notes.tagDot(0, tag, 0), 3);
            due.equal("another replica", notes.tagDot(1, 15, 1), 1);
            due.equal("the register", notes.entryValue(0, 0, 0), 5);
        }
    }

    private static void addedFrom0To15(Checks due) {
        Notes notes = Worlds.empty(1, 4, 4);
        for (int tag = 0; tag <= 15; tag++) {
            due.equal("addTag", notes.addTag(0, tag), tag + 1);
            due.equal("its dot", notes.tagDot(0, tag, 0), tag + 1);
            due.equal("tagCount after it", notes.tagCount(0), tag + 1);
        }
        for (int tag : new int[] {Integer.MIN_VALUE, -1, 16, Integer.MAX_VALUE}) {
            due.noIndex("addTag of " + tag, () -> notes.addTag(0, tag));
        }
        due.equal("the entry after wrong ones", notes.versionEntry(0, 0), 16);
    }

    private static void addTagThrows(Checks due) {
        Refusals.replicas(due, (notes, replica) -> notes.addTag(replica, 0));
        Refusals.tags(due, (notes, tag) -> notes.addTag(2, tag));
    }

    private static void allDotsAreRemoved(Checks due) {
        Notes notes = Texts.loaded("replicas 4 0 1;add 0 p;add 1 p;add 2 p;add 3 p;add 0 o;write 0 0 5");
        notes.mergeAll();
        notes.removeTag(3, 15);
        due.equal("the dots of the tag", notes.liveDots(3, 15), 0);
        due.no("the tag", notes.hasTag(3, 15));
        due.equal("the tag before it", notes.liveDots(3, 14), 1);
        due.equal("the register", notes.entryValue(3, 0, 0), 5);
        due.equal("the tag of another replica", notes.liveDots(0, 15), 4);
        due.equal("the entries of the version vector", notes.versionEntry(3, 3) * 10 + notes.versionEntry(3, 0), 13);
        for (int tag = 0; tag < 16; tag++) {
            Notes crowded = Worlds.crowded();
            String withoutTag = Views.state(crowded, 1).replaceAll((char) ('a' + tag) + "[0-9]+ ", "");
            crowded.removeTag(1, tag);
            due.equal("all else after removeTag of " + tag, Views.state(crowded, 1), withoutTag);
        }
    }

    private static void removedFrom1To4(Checks due) {
        for (int dots = 1; dots <= 4; dots++) {
            Notes notes = Texts.loaded("replicas 4 0 0;add 0 a;add 1 a;add 2 a;add 3 a");
            for (int replica = 1; replica < dots; replica++) {
                notes.merge(0, replica);
            }
            due.equal("removeTag", notes.removeTag(0, 0), dots);
        }
    }

    private static void removedFrom0To15(Checks due) {
        Notes notes = Worlds.full();
        for (int tag = 0; tag <= 15; tag++) {
            due.equal("removeTag", notes.removeTag(0, tag), 1);
            due.equal("tagCount after it", notes.tagCount(0), 15 - tag);
        }
        due.equal("the registers after it", notes.entryCount(0, 0), 1);
        for (int tag : new int[] {Integer.MIN_VALUE, -1, 16, Integer.MAX_VALUE}) {
            due.noIndex("removeTag of " + tag, () -> notes.removeTag(0, tag));
        }
    }

    private static void removeTagThrows(Checks due) {
        Refusals.replicas(due, (notes, replica) -> notes.removeTag(replica, 0));
        Refusals.tags(due, (notes, tag) -> notes.removeTag(0, tag));
    }

    private static void absentTagIsRefused(Checks due) {
        // in a busy object, replica 0 has all tags, but none after these removals
        Refusals.refused(due, Refusals.BAD_STATE, ChangeBoundaries::withoutFirstAndLast, "removeTag of the first tag",
                notes -> notes.removeTag(0, 0));
        Refusals.refused(due, Refusals.BAD_STATE, ChangeBoundaries::withoutFirstAndLast, "removeTag of the last tag",
                notes -> notes.removeTag(0, 15));
        Refusals.answered(due, withoutFirstAndLast(), "removeTag of another tag", notes -> notes.removeTag(0, 14));
        Refusals.answered(due, withoutFirstAndLast(), "removeTag by another replica", notes -> notes.removeTag(2, 0));
        Refusals.refused(due, Refusals.BAD_STATE, Notes::new, "removeTag of what another one has",
                notes -> notes.removeTag(0, 1));
    }

    private static Notes withoutFirstAndLast() {
        Notes notes = Worlds.busy();
        notes.removeTag(0, 0);
        notes.removeTag(0, 15);
        return notes;
    }

    private static void wrongIndexAndAbsentTag(Checks due) {
        for (int wrong : BEYOND_4) {
            due.noIndex("removeTag of an absent tag by " + wrong, () -> Worlds.empty(4, 0, 0).removeTag(wrong, 0));
        }
        for (int wrong : new int[] {Integer.MIN_VALUE, -1, 16, Integer.MAX_VALUE}) {
            due.noIndex("removeTag of tag " + wrong, () -> Worlds.empty(4, 0, 0).removeTag(0, wrong));
        }
        due.badState("removeTag of an absent tag", () -> Worlds.empty(4, 0, 0).removeTag(3, 15));
    }

    // ---- writing

    private static void eachValue(Checks due) {
        Notes notes = Worlds.empty(4, 0, 4);
        for (int value = 0; value <= 99; value++) {
            notes.write(3, 3, value);
            due.equal("the value", notes.entryValue(3, 3, 3), value);
            due.equal("its entries", notes.entryCount(3, 3), 1);
            due.equal("its dot", notes.versionEntry(3, 3), value + 1);
        }
    }

    private static void leastAndGreatestValue(Checks due) {
        Notes notes = Worlds.empty(2, 0, 1);
        due.equal("write of 0", notes.write(0, 0, 0), 0);
        due.equal("the value 0", notes.greatestValue(0, 0), 0);
        due.equal("write of 99", notes.write(0, 0, 99), 1);
        due.equal("the value 99", notes.greatestValue(0, 0), 99);
        for (int value : new int[] {Integer.MIN_VALUE, -1, 100, Integer.MAX_VALUE}) {
            due.badArgument("write of " + value, () -> notes.write(0, 0, value));
        }
        due.equal("the value after wrong ones", notes.greatestValue(0, 0), 99);
    }

    private static void allEntriesAreReplaced(Checks due) {
        Notes notes = Texts.loaded("replicas 4 0 4;write 0 3 1;write 1 3 2;write 2 3 3;write 3 3 4;write 3 2 5;add 0 p");
        notes.mergeAll();
        notes.write(2, 3, 0);
        due.equal("the entries", Texts.register(notes, 2, 3), "0");
        due.equal("another register", Texts.register(notes, 2, 2), "5");
        due.equal("another replica", Texts.register(notes, 0, 3), "1|2|3|4");
        due.equal("a tag", notes.liveDots(2, 15), 1);
        due.equal("the entry of the version vector", notes.versionEntry(2, 2), 2);
        notes.merge(0, 2);
        due.equal("another replica after a merge", Texts.register(notes, 0, 3), "0");
    }

    private static void tagsAndRegistersShareNumbers(Checks due) {
        Notes notes = Worlds.empty(4, 1, 4);
        notes.write(3, 3, 5);
        due.equal("the first dot", notes.versionEntry(3, 3), 1);
        due.equal("the second dot", notes.addTag(3, 15), 2);
        notes.write(3, 0, 5);
        due.equal("the third dot", notes.versionEntry(3, 3), 3);
        notes.increment(3, 0, 5);
        notes.removeTag(3, 15);
        due.equal("no dot of other changes", notes.versionEntry(3, 3), 3);
        due.equal("no dot of another replica", notes.versionEntry(3, 2), 0);
    }

    private static void replacedFrom0To4(Checks due) {
        for (int entries = 0; entries <= 4; entries++) {
            Notes notes = Texts.loaded("replicas 4 0 4;write 0 3 1;write 1 3 1;write 2 3 1;write 3 3 1");
            for (int replica = 1; replica < entries; replica++) {
                notes.merge(0, replica);
            }
            due.equal("write", notes.write(0, entries == 0 ? 2 : 3, 9), entries);
            due.equal("write again", notes.write(0, entries == 0 ? 2 : 3, 9), 1);
        }
    }

    private static void writeThrows(Checks due) {
        Refusals.replicas(due, (notes, replica) -> notes.write(replica, 0, 0));
        Refusals.registers(due, (notes, register) -> notes.write(0, register, 99));
    }

    // ---- merging

    private static void mergeWithItself(Checks due) {
        Notes notes = new Notes();
        String before = Views.world(notes);
        for (int replica = 0; replica < 3; replica++) {
            due.no("merge with itself", notes.merge(replica, replica));
        }
        due.equal("all after it", Views.world(notes), before);
        due.equal("the changes after it", notes.undo(), 2);
    }

    private static void changedOrNot(Checks due) {
        String[] changes = {"inc 3 3 1", "dec 3 3 1", "add 3 p", "remove 3 a", "write 3 3 0", "add 3 b;remove 3 b", "add 3 a"};
        for (String change : changes) {
            Notes notes = Texts.loaded("replicas 4 4 4;add 0 a;write 0 3 0;merge 3 0;" + change);
            due.no("a merge of an older state after " + change, notes.merge(3, 0));
            due.yes("a merge of " + change, notes.merge(0, 3));
            due.no("the same merge again", notes.merge(0, 3));
        }
        due.no("a merge of empty states", Worlds.empty(4, 4, 4).merge(0, 3));
    }

    private static void mergeThrows(Checks due) {
        Refusals.replicas(due, (notes, target) -> notes.merge(target, 0));
        Refusals.replicas(due, (notes, source) -> notes.merge(0, source));
    }

    private static void allAreEqual(Checks due) {
        for (int count = 1; count <= 4; count++) {
            Notes notes = Worlds.busy(count, 4, 4, 2);
            int tags = notes.mergedTags();
            int value = notes.mergedValue(3);
            int conflicts = notes.mergedConflicts();
            notes.mergeAll();
            due.equal("differentStates after it", notes.differentStates(), 1);
            due.equal("the tags of the first one", notes.tagCount(0), tags);
            due.equal("the value of the last one", notes.counterValue(count - 1, 3), value);
            due.equal("the conflicts of the last one", notes.conflicts(count - 1), conflicts);
            due.equal("the messages after it", notes.messageCount(), 2);
        }
        Notes full = Worlds.full();
        full.mergeAll();
        due.equal("the dots of all", full.liveDots(0, 15) * 10 + full.entryCount(3, 3), 44);
    }

    private static void changedFrom0To4(Checks due) {
        for (int count = 1; count <= 4; count++) {
            Notes notes = Worlds.empty(count, 1, 1);
            due.equal("mergeAll of equal ones", notes.mergeAll(), 0);
            for (int changed = 1; changed <= count; changed++) {
                for (int replica = 0; replica < changed; replica++) {
                    notes.addTag(replica, 0);
                }
                due.equal("mergeAll after changes of " + changed, notes.mergeAll(), changed > 1 ? count : count - 1);
            }
            due.equal("mergeAll again", notes.mergeAll(), 0);
        }
        Notes some = Texts.loaded("replicas 4 0 0; add 0 a; merge 1 0; merge 2 0");
        due.equal("mergeAll with one that lags behind", some.mergeAll(), 1);
    }
}
