/** Boundaries of promises 17 to 25: what a replica's state holds of tags and registers. */
final class ContentBoundaries {
    private static final String NO_REPLICA = "Throws `IndexOutOfBoundsException` if there is no such replica";
    private static final String NO_TAG = "Throws `IndexOutOfBoundsException` if there is no such replica, or tag is not 0 to 15";
    private static final String NO_REGISTER = "Throws `IndexOutOfBoundsException` if there is no such replica or register";

    private ContentBoundaries() {
    }

    static void addTo(Sentences sentences) {
        addTags(sentences);
        addRegisters(sentences);
    }

    private static void addTags(Sentences sentences) {
        sentences.test(17, "There are 16 tags, numbered from 0 to 15; in texts they are the letters a to p.",
                ContentBoundaries::sixteenTags);
        sentences.test(17, "A tag is present if it has at least one live dot.", ContentBoundaries::oneDotIsPresent);
        sentences.test(17, "`tag`: 0 to 15", due -> answersTags(due, (notes, tag) -> notes.hasTag(0, tag)));
        sentences.test(17, NO_TAG, ContentBoundaries::hasTagThrows);
        sentences.test(18, "Returns 0 to 4.", ContentBoundaries::dotsFrom0To4);
        sentences.test(18, "`tag`: 0 to 15", due -> answersTags(due, (notes, tag) -> notes.liveDots(0, tag) == 1));
        sentences.test(18, NO_TAG, ContentBoundaries::liveDotsThrows);
        sentences.test(19, "Returns the sequence number; 0 if the tag has no live dot of this replica.",
                ContentBoundaries::noDotIsZero);
        sentences.test(19, "`tag`: 0 to 15", due -> answersTags(due, (notes, tag) -> notes.tagDot(0, tag, 0) == tag + 1));
        sentences.test(19, "Throws `IndexOutOfBoundsException` if one of the replicas does not exist, or tag is not 0 to 15",
                ContentBoundaries::tagDotThrows);
        sentences.test(20, "Returns 0 to 16.", ContentBoundaries::tagCountsFrom0To16);
        sentences.test(20, NO_REPLICA, due -> Refusals.replicas(due, (notes, replica) -> notes.tagCount(replica)));
        sentences.test(21, "`index`: 0 for the smallest one, and so on", ContentBoundaries::tagsByIndex);
        sentences.test(21, NO_REPLICA + ", or it has no such tag", ContentBoundaries::tagAtThrows);
    }

    private static void addRegisters(Sentences sentences) {
        sentences.test(22, "Returns 0 to 4.", ContentBoundaries::entriesFrom0To4);
        sentences.test(22, NO_REGISTER, ContentBoundaries::entryCountThrows);
        sentences.test(23, "NONE if the register has no entry with a dot of this replica.",
                ContentBoundaries::noEntryIsNone);
        sentences.test(23, "Throws `IndexOutOfBoundsException` if one of the replicas or the register does not exist",
                ContentBoundaries::entryValueThrows);
        sentences.test(24, "Returns the greatest value of its entries", ContentBoundaries::greatestOfFour);
        sentences.test(24, "NONE if it has none.", ContentBoundaries::greatestOfNone);
        sentences.test(24, NO_REGISTER, ContentBoundaries::greatestValueThrows);
        sentences.test(25, "A register is in conflict if it has more than one entry.",
                ContentBoundaries::twoEntriesAreAConflict);
        sentences.test(25, "Returns the number of registers with more than one entry.",
                ContentBoundaries::conflictsFrom0To4);
        sentences.test(25, NO_REPLICA, due -> Refusals.replicas(due, (notes, replica) -> notes.conflicts(replica)));
    }

    // ---- tags

    private interface TagUse {
        boolean of(Notes notes, int tag);
    }

    /** The answer is due for every tag if all have been added in their order, and tags 15 and 0 are added alone. */
    private static void answersTags(Checks due, TagUse call) {
        StringBuilder text = new StringBuilder("replicas 1 0 0");
        for (char tag = 'a'; tag <= 'p'; tag++) {
            text.append(";add 0 ").append(tag);
        }
        Notes notes = Texts.loaded(text.toString());
        for (int tag = 0; tag <= 15; tag++) {
            due.yes("the answer for tag " + tag, call.of(notes, tag));
        }
        for (int tag : new int[] {Integer.MIN_VALUE, -1, 16, 17, Integer.MAX_VALUE}) {
            due.noIndex("tag " + tag, () -> call.of(notes, tag));
        }
        Notes empty = Worlds.empty(1, 0, 0);
        due.no("the answer for an absent first tag", call.of(empty, 0));
        due.no("the answer for an absent last tag", call.of(empty, 15));
    }

    private static void sixteenTags(Checks due) {
        for (int tag = 0; tag < 16; tag++) {
            char letter = (char) ('a' + tag);
            Notes notes = Texts.loaded("replicas 1 0 4;add 0 " + letter);
            for (int other = 0; other < 16; other++) {
                due.that("hasTag(0, " + other + ") after add of " + letter, notes.hasTag(0, other) == (other == tag));
            }
        }
        due.noIndex("tag -1", () -> Worlds.empty(1, 0, 4).hasTag(0, -1));
        due.noIndex("tag 16", () -> Worlds.empty(1, 0, 4).hasTag(0, 16));
    }

    private static void oneDotIsPresent(Checks due) {
        for (int by = 0; by < 4; by++) {
            Notes notes = Worlds.empty(4, 0, 0);
            due.no("hasTag without a dot", notes.hasTag(by, 9));
            notes.addTag(by, 9);
            due.yes("hasTag with a dot of replica " + by, notes.hasTag(by, 9));
            due.equal("its dots", notes.liveDots(by, 9), 1);
            due.no("hasTag of the next tag", notes.hasTag(by, 10));
            due.no("hasTag of the tag before", notes.hasTag(by, 8));
            notes.removeTag(by, 9);
            due.no("hasTag after the removal", notes.hasTag(by, 9));
        }
    }

    private static void hasTagThrows(Checks due) {
        Refusals.replicas(due, (notes, replica) -> notes.hasTag(replica, 0));
        Refusals.tags(due, (notes, tag) -> notes.hasTag(0, tag));
    }

    private static void dotsFrom0To4(Checks due) {
        Notes notes = Texts.loaded("replicas 4 0 0; add 0 p; add 1 p; add 2 p; add 3 p");
        due.equal("liveDots of none", notes.liveDots(0, 14), 0);
        for (int replica = 1; replica <= 4; replica++) {
            due.equal("liveDots of " + replica, notes.liveDots(0, 15), replica);
            notes.merge(0, replica % 4);
        }
        notes.addTag(0, 15);
        due.equal("liveDots after an addition", notes.liveDots(0, 15), 1);
    }

    private static void liveDotsThrows(Checks due) {
        Refusals.replicas(due, (notes, replica) -> notes.liveDots(replica, 0));
        Refusals.tags(due, (notes, tag) -> notes.liveDots(0, tag));
    }

    private static void noDotIsZero(Checks due) {
        Notes notes = Texts.loaded("replicas 4 0 1; add 3 a; add 3 p; write 3 0 9; merge 0 3; add 0 p");
        due.equal("tagDot of the first dot", notes.tagDot(0, 0, 3), 1);
        due.equal("tagDot of the second dot", notes.tagDot(3, 15, 3), 2);
        due.equal("tagDot of a replaced dot", notes.tagDot(0, 15, 3), 0);
        due.equal("tagDot of what replaced it", notes.tagDot(0, 15, 0), 1);
        due.equal("tagDot of a replica without dots", notes.tagDot(0, 0, 2), 0);
        due.equal("tagDot of an absent tag", notes.tagDot(0, 1, 3), 0);
        due.equal("tagDot of a removed tag", notes.removeTag(0, 0) + 10 * notes.tagDot(0, 0, 3), 1);
    }

    private static void tagDotThrows(Checks due) {
        Refusals.replicas(due, (notes, replica) -> notes.tagDot(replica, 0, 0));
        Refusals.tags(due, (notes, tag) -> notes.tagDot(0, tag, 0));
        Refusals.replicas(due, (notes, by) -> notes.tagDot(0, 0, by));
    }

    private static void tagCountsFrom0To16(Checks due) {
        Notes notes = Texts.loaded("replicas 2 4 1; write 0 0 3; inc 0 0 1; dec 0 3 1");
        due.equal("tagCount of none", notes.tagCount(0), 0);
        for (int tag = 15; tag >= 0; tag--) {
            notes.addTag(0, tag);
            due.equal("tagCount", notes.tagCount(0), 16 - tag);
        }
        notes.addTag(0, 0);
        due.equal("tagCount after one is added again", notes.tagCount(0), 16);
        due.equal("tagCount of the other replica", notes.tagCount(1), 0);
        notes.merge(1, 0);
        notes.addTag(1, 0);
        due.equal("tagCount with two dots of one tag", notes.tagCount(0) + 100 * notes.tagCount(1), 1616);
    }

    private static void tagsByIndex(Checks due) {
        Notes notes = Texts.loaded("replicas 1 0 0; add 0 p; add 0 h; add 0 a");
        due.equal("tagAt 0", notes.tagAt(0, 0), 0);
        due.equal("tagAt 1", notes.tagAt(0, 1), 7);
        due.equal("tagAt 2", notes.tagAt(0, 2), 15);
        notes.removeTag(0, 0);
        due.equal("tagAt 0 after the removal", notes.tagAt(0, 0), 7);
        Notes all = Worlds.crowded();
        for (int index = 0; index < 16; index++) {
            due.equal("tagAt of all", all.tagAt(3, index), index);
        }
    }

    private static void tagAtThrows(Checks due) {
        Refusals.replicas(due, (notes, replica) -> notes.tagAt(replica, 0));
        Refusals.range(due, Refusals.NO_INDEX, Worlds::busy, 0, 15, (notes, index) -> notes.tagAt(0, index));
        Refusals.range(due, Refusals.NO_INDEX, ContentBoundaries::threeTags, 0, 2, (notes, index) -> notes.tagAt(0, index));
        Refusals.range(due, Refusals.NO_INDEX, () -> Worlds.empty(2, 1, 1), 0, -1, (notes, index) -> notes.tagAt(0, index));
    }

    /** Registers are written and counters used beside the tags, since they must not count. */
    private static Notes threeTags() {
        return Texts.loaded("replicas 2 4 4; add 0 a; add 0 h; add 0 p; write 0 0 9; write 0 3 9; dec 0 3 1; add 1 c");
    }

    // ---- registers

    private static void entriesFrom0To4(Checks due) {
        Notes notes = Texts.loaded("replicas 4 0 4; write 0 3 0; write 1 3 0; write 2 3 0; write 3 3 0");
        due.equal("entryCount of none", notes.entryCount(0, 2), 0);
        for (int replica = 1; replica <= 4; replica++) {
            due.equal("entryCount of " + replica, notes.entryCount(0, 3), replica);
            notes.merge(0, replica % 4);
        }
        notes.write(0, 3, 0);
        due.equal("entryCount after a write", notes.entryCount(0, 3), 1);
    }

    private static void entryCountThrows(Checks due) {
        Refusals.replicas(due, (notes, replica) -> notes.entryCount(replica, 0));
        Refusals.registers(due, (notes, register) -> notes.entryCount(0, register));
    }

    private static void noEntryIsNone(Checks due) {
        Notes notes = Texts.loaded("replicas 4 0 4; write 3 3 0; merge 0 3; write 0 2 99; write 3 0 5");
        due.equal("entryValue of 0", notes.entryValue(0, 3, 3), 0);
        due.equal("entryValue of 99", notes.entryValue(0, 2, 0), 99);
        due.equal("entryValue by another", notes.entryValue(0, 3, 0), OfflineNotes.NONE);
        due.equal("entryValue by the last one", notes.entryValue(0, 2, 3), OfflineNotes.NONE);
        due.equal("entryValue of an empty register", notes.entryValue(0, 1, 0), OfflineNotes.NONE);
        due.equal("entryValue that is not known", notes.entryValue(0, 0, 3), OfflineNotes.NONE);
        notes.write(0, 3, 1);
        due.equal("entryValue of a replaced entry", notes.entryValue(0, 3, 3), OfflineNotes.NONE);
    }

    private static void entryValueThrows(Checks due) {
        Refusals.replicas(due, (notes, replica) -> notes.entryValue(replica, 0, 0));
        Refusals.registers(due, (notes, register) -> notes.entryValue(0, register, 0));
        Refusals.replicas(due, (notes, by) -> notes.entryValue(0, 0, by));
    }

    private static void greatestOfFour(Checks due) {
        for (int greatest = 0; greatest < 4; greatest++) {
            Notes notes = Worlds.empty(4, 0, 4);
            for (int replica = 0; replica < 4; replica++) {
                notes.write(replica, 3, replica == greatest ? 99 : 98 - replica);
                notes.write(replica, 2, 0);
            }
            notes.mergeAll();
            due.equal("greatestValue, by replica " + greatest, notes.greatestValue(0, 3), 99);
            due.equal("greatestValue of four zeros", notes.greatestValue(3, 2), 0);
        }
        for (int register = 0; register < 4; register++) {
            Notes crowded = Worlds.crowded();
            crowded.write(1, register, 0);
            due.equal("greatestValue of 0 beside greater ones", crowded.greatestValue(1, register), 0);
            due.equal("greatestValue before the write", crowded.greatestValue(0, register), 30 + register);
        }
    }

    private static void greatestOfNone(Checks due) {
        Notes notes = Texts.loaded("replicas 2 0 4; write 1 3 0; write 0 2 7");
        due.equal("greatestValue of none", notes.greatestValue(0, 3), OfflineNotes.NONE);
        due.equal("greatestValue of a zero", notes.greatestValue(1, 3), 0);
        due.equal("greatestValue of the first register", notes.greatestValue(0, 0), OfflineNotes.NONE);
    }

    private static void greatestValueThrows(Checks due) {
        Refusals.replicas(due, (notes, replica) -> notes.greatestValue(replica, 0));
        Refusals.registers(due, (notes, register) -> notes.greatestValue(0, register));
    }

    private static void twoEntriesAreAConflict(Checks due) {
        Notes notes = Texts.loaded("replicas 4 0 4; write 0 3 1; write 3 3 1; write 2 3 1; write 1 3 1");
        due.equal("conflicts of no entry", notes.entryCount(0, 0) + notes.conflicts(0), 0);
        due.equal("conflicts of one entry", 10 * notes.entryCount(0, 3) + notes.conflicts(0), 10);
        notes.merge(0, 3);
        due.equal("conflicts of two entries", 10 * notes.entryCount(0, 3) + notes.conflicts(0), 21);
        notes.merge(0, 2);
        notes.merge(0, 1);
        due.equal("conflicts of four entries", 10 * notes.entryCount(0, 3) + notes.conflicts(0), 41);
        notes.write(0, 3, 1);
        due.equal("conflicts after a write", 10 * notes.entryCount(0, 3) + notes.conflicts(0), 10);
    }

    private static void conflictsFrom0To4(Checks due) {
        Notes notes = Worlds.empty(2, 0, 4);
        for (int tag = 0; tag < 16; tag++) {
            notes.addTag(0, tag);
            notes.addTag(1, tag);
        }
        notes.mergeAll();
        due.equal("conflicts of tags with two dots", notes.conflicts(0), 0);
        for (int register = 0; register < 4; register++) {
            notes.write(0, register, 1);
            notes.write(1, register, 1);
            due.equal("conflicts before the merge", notes.conflicts(1), 0);
            notes.merge(0, 1);
            due.equal("conflicts", notes.conflicts(0), register + 1);
        }
    }
}
