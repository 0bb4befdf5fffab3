/** Boundaries of promises 26 to 35, which look ahead at merges, and of the rules of merging (promise 44). */
final class MergingBoundaries {
    private static final String NO_REPLICA = "Throws `IndexOutOfBoundsException` if one of the replicas does not exist";

    private MergingBoundaries() {
    }

    static void addTo(Sentences sentences) {
        addDeltas(sentences);
        addLooksAhead(sentences);
        addNothingChanges(sentences);
        addRules(sentences);
    }

    private static void addDeltas(Sentences sentences) {
        sentences.test(26, "Returns the number of dots, live or not.", MergingBoundaries::dotsThatAreNotLive);
        sentences.test(26, NO_REPLICA, MergingBoundaries::unseenDotsThrows);
        sentences.test(27, "A state has seen a dot if the sequence number is not greater than the entry.",
                MergingBoundaries::equalNumberIsSeen);
        sentences.test(27, "Returns the number of entries of the version vector, sums of increments and sums of decrements"
                + " that are greater in the first state", MergingBoundaries::greaterByOneCounts);
        sentences.test(27, "plus the number of live dots of tags and registers of the first state that the second one has"
                + " not seen.", MergingBoundaries::unseenLiveDotsCount);
        sentences.test(27, NO_REPLICA, MergingBoundaries::deltaSizeThrows);
    }

    private static void addLooksAhead(Sentences sentences) {
        sentences.test(28, "Returns the number of tags that are not present in the target and would be after merging the"
                + " source into it.", MergingBoundaries::gainedFrom0To16);
        sentences.test(28, NO_REPLICA, MergingBoundaries::tagsGainedThrows);
        sentences.test(29, "Returns the number of tags that are present in the target and would not be after merging the"
                + " source into it.", MergingBoundaries::lostFrom0To16);
        sentences.test(29, NO_REPLICA, MergingBoundaries::tagsLostThrows);
        sentences.test(30, "Returns the value that a counter would have if all replicas were merged.",
                MergingBoundaries::mergedValues);
        sentences.test(30, "Throws `IndexOutOfBoundsException` if there is no such counter",
                due -> Refusals.counters(due, (notes, counter) -> notes.mergedValue(counter)));
        sentences.test(31, "Counts the tags that would be present if all replicas were merged.",
                MergingBoundaries::mergedTagsFrom0To16);
        sentences.test(32, "Counts the registers that would be in conflict if all replicas were merged.",
                MergingBoundaries::mergedConflictsFrom0To4);
        sentences.test(33, "Returns 0 if both results are equal, otherwise 1; always 0.", MergingBoundaries::noErrors);
        sentences.test(34, "Returns the sum of the numbers of present tags of all replicas as a double, divided by the number"
                + " of replicas as a double.", MergingBoundaries::meansFrom0To16);
        sentences.test(35, "Returns the number of replicas whose state covers the states of all replicas as a float, divided"
                + " by the number of replicas as a float.", MergingBoundaries::sharesFrom0To1);
    }

    private static void addNothingChanges(Sentences sentences) {
        addQuestion(sentences, 26, notes -> notes.unseenDots(0, 1));
        addQuestion(sentences, 27, notes -> notes.deltaSize(0, 1));
        addQuestion(sentences, 28, notes -> notes.tagsGained(0, 1));
        addQuestion(sentences, 29, notes -> notes.tagsLost(0, 1));
        addQuestion(sentences, 30, notes -> notes.mergedValue(0));
        addQuestion(sentences, 31, Notes::mergedTags);
        addQuestion(sentences, 32, Notes::mergedConflicts);
        addQuestion(sentences, 33, Notes::convergenceErrors);
        addQuestion(sentences, 34, Notes::meanTags);
        addQuestion(sentences, 35, Notes::completeShare);
    }

    private static void addQuestion(Sentences sentences, int promise, Refusals.Use question) {
        sentences.test(promise, "---- merging: nothing changes.", due -> {
            Refusals.unchanged(due, Worlds::busy, question);
            Refusals.unchanged(due, Notes::new, question);
            Refusals.unchanged(due, MergingBoundaries::fourConcurrent, question);
        });
    }

    /** Each of four replicas knows something that no other one knows, and lacks what a message and the slots have. */
    private static Notes fourConcurrent() {
        Notes notes = Worlds.crowded();
        notes.send(1);
        notes.save(0);
        for (int replica = 0; replica < 4; replica++) {
            notes.addTag(replica, 15 - replica);
            notes.removeTag(replica, replica);
            notes.write(replica, replica, 9);
            notes.increment(replica, 0, 1 + replica);
        }
        return notes;
    }

    private static void addRules(Sentences sentences) {
        sentences.test(44, "the source stays as it is.", MergingBoundaries::sourceStays);
        sentences.test(44, "The sum of increments and the sum of decrements of each replica for each counter become the"
                + " greater one of both states.", MergingBoundaries::greaterSums);
        sentences.test(44, "A live dot of a tag or a register is kept in the target if it is live in both states",
                MergingBoundaries::liveInBoth);
        sentences.test(44, "or if it is live in the target and the source has not seen it.",
                MergingBoundaries::keptIfNotSeen);
        sentences.test(44, "A live dot of the source is added to the target, with the value if it belongs to a register, if"
                + " the target has not seen it.", MergingBoundaries::addedIfNotSeen);
        sentences.test(44, "Then each entry of the version vector of the target becomes the greater one of both states.",
                MergingBoundaries::greaterEntries);
    }

    // ---- deltas

    private static void dotsThatAreNotLive(Checks due) {
        Notes notes = Texts.loaded("replicas 4 1 1; add 3 a; remove 3 a; write 3 0 1; write 3 0 2; inc 3 0 9; merge 0 3;"
                + " add 3 b; add 2 c");
        due.equal("unseenDots that are live or not", notes.unseenDots(3, 1), 4);
        due.equal("unseenDots but for the seen ones", notes.unseenDots(3, 0), 1);
        due.equal("unseenDots to who has seen more", notes.unseenDots(0, 3), 0);
        due.equal("unseenDots of concurrent ones", notes.unseenDots(0, 2) * 10 + notes.unseenDots(2, 0), 31);
        due.equal("unseenDots to itself", notes.unseenDots(3, 3), 0);
        due.equal("unseenDots of none", notes.unseenDots(1, 3), 0);
        notes.addTag(0, 0);
        notes.removeTag(0, 0);
        due.equal("unseenDots of the first one", notes.unseenDots(0, 3), 1);
        notes.mergeAll();
        due.equal("unseenDots after all is merged", notes.unseenDots(0, 1) + notes.unseenDots(1, 0), 0);
        Notes full = Worlds.full();
        full.increment(0, 0, 99);
        for (int replica = 0; replica < 4; replica++) {
            due.equal("unseenDots of replica " + replica, full.unseenDots(replica, (replica + 1) % 4), 20);
        }
    }

    private static void unseenDotsThrows(Checks due) {
        Refusals.replicas(due, (notes, from) -> notes.unseenDots(from, 0));
        Refusals.replicas(due, (notes, to) -> notes.unseenDots(0, to));
    }

    private static void equalNumberIsSeen(Checks due) {
        Notes tag = Texts.loaded("replicas 2 0 0; add 0 a; merge 1 0; remove 1 a");
        due.equal("the delta of a dot whose number is the entry", tag.deltaSize(0, 1), 0);
        Notes next = Texts.loaded("replicas 2 0 0; add 0 a; merge 1 0; remove 1 a; add 0 b");
        due.equal("the delta of a dot whose number is 1 greater", next.deltaSize(0, 1), 2);
        next.merge(0, 1);
        due.equal("the tags after a merge with who has seen one", Texts.tags(next, 0), "b");
        Notes entry = Texts.loaded("replicas 2 0 1; write 0 0 7; merge 1 0; write 1 0 8");
        due.equal("the delta of an entry whose number is seen", entry.deltaSize(0, 1), 0);
        entry.merge(0, 1);
        due.equal("the entries after a merge with who has seen one", Texts.register(entry, 0, 0), "8");
    }

    private static void greaterByOneCounts(Checks due) {
        Notes sums = Texts.loaded("replicas 4 4 0; inc 3 3 1; dec 3 0 1; merge 0 3");
        due.equal("the delta of equal sums", sums.deltaSize(3, 0), 0);
        sums.increment(3, 3, 1);
        due.equal("the delta of a greater increment", sums.deltaSize(3, 0), 1);
        due.equal("the delta of a smaller increment", sums.deltaSize(0, 3), 0);
        sums.decrement(3, 0, 1);
        due.equal("the delta of a greater decrement too", sums.deltaSize(3, 0), 2);
        due.equal("the delta to who knows nothing", sums.deltaSize(3, 1), 2);
        Notes version = Texts.loaded("replicas 4 0 0; add 3 a; remove 3 a; add 0 a; remove 0 a");
        due.equal("the delta of an entry alone", version.deltaSize(3, 1), 1);
        due.equal("the delta of an entry that is smaller here", version.deltaSize(0, 3), 1);
        version.merge(1, 3);
        due.equal("the delta of an equal entry", version.deltaSize(3, 1), 0);
        version.merge(1, 0);
        due.equal("the delta of two entries", version.deltaSize(1, 2), 2);
        Notes all = Worlds.full();
        for (int i = 0; i < 16; i++) {
            all.increment(i / 4, i % 4, 1);
            all.decrement(i / 4, i % 4, 1);
        }
        // an entry, 4 increments, 4 decrements, 16 tags and 4 registers
        due.equal("the greatest delta of one replica", all.deltaSize(3, 0), 29);
        all.merge(1, 0);
        all.merge(1, 2);
        all.merge(1, 3);
        due.equal("the delta to who has a part of it", all.deltaSize(1, 0), 3 * 29);
        due.equal("the delta to who has all of it", all.deltaSize(0, 1), 0);
    }

    private static void unseenLiveDotsCount(Checks due) {
        Notes notes = Texts.loaded("replicas 4 0 4; add 3 a; add 3 p; write 3 0 1; write 3 3 2");
        due.equal("the delta of four live dots", notes.deltaSize(3, 0), 1 + 4);
        notes.removeTag(3, 0);
        due.equal("the delta after a removal", notes.deltaSize(3, 0), 1 + 3);
        notes.write(3, 3, 2);
        due.equal("the delta after a write", notes.deltaSize(3, 0), 1 + 3);
        notes.merge(0, 3);
        due.equal("the delta of seen dots", notes.deltaSize(3, 0), 0);
        notes.write(3, 0, 1);
        due.equal("the delta of one new dot", notes.deltaSize(3, 0), 1 + 1);
        notes.addTag(2, 0);
        notes.merge(3, 2);
        due.equal("the delta of new dots of two replicas", notes.deltaSize(3, 0), 2 + 2);
        due.equal("the delta to who has made one of them", notes.deltaSize(3, 2), 1 + 3);
    }

    private static void deltaSizeThrows(Checks due) {
        Refusals.replicas(due, (notes, from) -> notes.deltaSize(from, 0));
        Refusals.replicas(due, (notes, to) -> notes.deltaSize(0, to));
    }

    // ---- looks ahead

    private static void gainedFrom0To16(Checks due) {
        Notes notes = Worlds.empty(3, 4, 1);
        notes.write(0, 0, 1);
        notes.decrement(0, 3, 1);
        for (int tag = 15; tag >= 0; tag--) {
            due.equal("tagsGained", notes.tagsGained(2, 0), 15 - tag);
            notes.addTag(0, tag);
        }
        due.equal("tagsGained of all", notes.tagsGained(2, 0), 16);
        due.equal("tagsGained the other way round", notes.tagsGained(0, 2), 0);
        due.equal("tagsGained from itself", notes.tagsGained(0, 0), 0);
        due.equal("the target after the question", notes.tagCount(2), 0);
        notes.merge(2, 0);
        notes.removeTag(2, 0);
        due.equal("tagsGained of a tag that it has removed", notes.tagsGained(2, 0), 0);
        notes.addTag(0, 0);
        notes.addTag(0, 1);
        due.equal("tagsGained of a tag that is added again", notes.tagsGained(2, 0), 1);
    }

    private static void tagsGainedThrows(Checks due) {
        Refusals.replicas(due, (notes, target) -> notes.tagsGained(target, 0));
        Refusals.replicas(due, (notes, source) -> notes.tagsGained(0, source));
    }

    private static void lostFrom0To16(Checks due) {
        Notes notes = Worlds.full();
        notes.merge(1, 0);
        for (int tag = 0; tag < 16; tag++) {
            due.equal("tagsLost", notes.tagsLost(0, 1), tag);
            notes.removeTag(1, tag);
        }
        due.equal("tagsLost of all", notes.tagsLost(0, 1), 16);
        due.equal("tagsLost the other way round", notes.tagsLost(1, 0), 0);
        due.equal("tagsLost to itself", notes.tagsLost(0, 0), 0);
        due.equal("tagsLost of dots that are not seen", notes.tagsLost(3, 1), 0);
        due.equal("the target after the question", notes.tagCount(0), 16);
        notes.addTag(0, 15);
        due.equal("tagsLost of all but one that is added again", notes.tagsLost(0, 1), 15);
        notes.merge(0, 2);
        due.equal("tagsLost if one of two dots is kept", notes.tagsLost(0, 1), 0);
    }

    private static void tagsLostThrows(Checks due) {
        Refusals.replicas(due, (notes, target) -> notes.tagsLost(target, 0));
        Refusals.replicas(due, (notes, source) -> notes.tagsLost(0, source));
    }

    private static void mergedValues(Checks due) {
        due.equal("mergedValue of none", Worlds.empty(4, 4, 4).mergedValue(3), 0);
        Notes notes = Texts.loaded("replicas 4 4 0; inc 0 0 1; dec 3 0 2; inc 0 3 99; merge 1 0; inc 1 3 50; dec 3 3 7;"
                + " inc 0 3 1");
        due.equal("mergedValue below zero", notes.mergedValue(0), -1);
        due.equal("mergedValue of the last counter", notes.mergedValue(3), 143);
        due.equal("mergedValue of one replica", Texts.loaded("replicas 1 1 0; dec 0 0 3").mergedValue(0), -3);
        due.equal("the replicas after the question", notes.counterValue(2, 3), 0);
    }

    private static void mergedTagsFrom0To16(Checks due) {
        Notes notes = Worlds.empty(4, 4, 4);
        notes.write(3, 3, 1);
        notes.decrement(3, 3, 1);
        due.equal("mergedTags of none", notes.mergedTags(), 0);
        for (int tag = 0; tag < 16; tag++) {
            notes.addTag(tag % 4, tag);
            due.equal("mergedTags", notes.mergedTags(), tag + 1);
        }
        notes.addTag(0, 15);
        due.equal("mergedTags with two dots of a tag", notes.mergedTags(), 16);
        notes.merge(1, 3);
        notes.merge(1, 0);
        notes.removeTag(1, 15);
        due.equal("mergedTags after a removal", notes.mergedTags(), 15);
        due.equal("the replicas after the question", notes.tagCount(2), 4);
    }

    private static void mergedConflictsFrom0To4(Checks due) {
        Notes notes = Worlds.empty(4, 0, 4);
        due.equal("mergedConflicts of none", notes.mergedConflicts(), 0);
        for (int register = 0; register < 4; register++) {
            notes.write(register, register, 1);
            due.equal("mergedConflicts of one entry", notes.mergedConflicts(), register);
            notes.write((register + 1) % 4, register, 1);
            due.equal("mergedConflicts of two entries", notes.mergedConflicts(), register + 1);
        }
        notes.mergeAll();
        notes.write(0, 3, 1);
        due.equal("mergedConflicts after a write over both", notes.mergedConflicts(), 3);
        due.equal("mergedConflicts of one replica", Texts.loaded("replicas 1 0 1; write 0 0 1; write 0 0 2").mergedConflicts(), 0);
    }

    private static void noErrors(Checks due) {
        for (int count = 1; count <= 4; count++) {
            due.equal("convergenceErrors of empty ones", Worlds.empty(count, 4, 4).convergenceErrors(), 0);
            due.equal("convergenceErrors", Worlds.busy(count, 4, 4, 6).convergenceErrors(), 0);
        }
        due.equal("convergenceErrors of full ones", Worlds.full().convergenceErrors(), 0);
        Notes notes = Texts.loaded("replicas 3 1 1; add 0 a; merge 1 0; remove 1 a; add 2 a; write 0 0 5; merge 2 0;"
                + " write 2 0 6; write 0 0 7; inc 1 0 3");
        due.equal("convergenceErrors of concurrent ones", notes.convergenceErrors(), 0);
        due.equal("the states after the question", notes.differentStates(), 3);
        notes.addTag(2, 15);
        due.equal("convergenceErrors after a change", notes.convergenceErrors(), 0);
        notes.undo();
        due.equal("convergenceErrors after its undo", notes.convergenceErrors(), 0);
        Texts.load(notes, "replicas 1 0 0");
        due.equal("convergenceErrors after load", notes.convergenceErrors(), 0);
    }

    private static void meansFrom0To16(Checks due) {
        due.equalDouble("meanTags of none", Worlds.empty(4, 0, 0).meanTags(), 0.0);
        due.equalDouble("meanTags of all", Worlds.full().meanTags(), 16.0);
        due.equalDouble("meanTags of a fourth", Texts.loaded("replicas 4 0 0; add 3 p").meanTags(), 0.25);
        due.equalDouble("meanTags of a third", Texts.loaded("replicas 3 0 0; add 0 p").meanTags(), 1.0 / 3.0);
        due.equalDouble("meanTags of a half", Texts.loaded("replicas 2 0 0; add 0 a").meanTags(), 0.5);
        due.equalDouble("meanTags of one", Texts.loaded("replicas 1 0 0; add 0 a").meanTags(), 1.0);
        due.equalDouble("meanTags of seven fourths",
                Texts.loaded("replicas 4 0 0; add 0 a; add 0 b; add 0 c; merge 3 0; add 1 a").meanTags(), 1.75);
    }

    private static void sharesFrom0To1(Checks due) {
        for (int count = 1; count <= 4; count++) {
            Notes notes = Worlds.empty(count, 1, 1);
            due.equalDouble("completeShare of equal ones", notes.completeShare(), 1.0f);
            notes.addTag(count - 1, 0);
            for (int replica = 0; replica < count; replica++) {
                due.equalDouble("completeShare", notes.completeShare(), (replica == count - 1 ? count : replica + 1) / (float) count);
                notes.merge(replica, count - 1);
            }
            notes.increment(0, 0, 1);
            notes.increment(count - 1, 0, 1);
            due.equalDouble("completeShare of concurrent ones", notes.completeShare(), count == 1 ? 1.0f : 0.0f);
        }
    }

    // ---- rules of merging

    private static void sourceStays(Checks due) {
        Notes notes = Worlds.full();
        String[] before = new String[4];
        for (int replica = 0; replica < 4; replica++) {
            before[replica] = Views.state(notes, replica);
        }
        notes.merge(0, 3);
        for (int replica = 1; replica < 4; replica++) {
            due.equal("replica " + replica + " after a merge into 0", Views.state(notes, replica), before[replica]);
        }
        due.equal("what replica 1 knows of 0", notes.versionEntry(3, 0), 0);
        notes.addTag(0, 0);
        due.equal("the source after a change of the target", Views.state(notes, 3), before[3]);
    }

    private static void greaterSums(Checks due) {
        Notes notes = Texts.loaded("replicas 4 4 0; inc 3 3 5; dec 3 3 7; inc 0 0 9; merge 1 3; inc 3 3 1; dec 3 3 1;"
                + " merge 2 3");
        notes.merge(1, 2);
        due.equal("greater sums of the source", notes.increments(1, 3, 3) * 100 + notes.decrements(1, 3, 3), 608);
        notes.merge(1, 0);
        due.equal("smaller sums of the source", notes.increments(1, 3, 3) * 100 + notes.decrements(1, 3, 3), 608);
        due.equal("sums of another replica", notes.increments(1, 0, 0), 9);
        notes.merge(1, 3);
        due.equal("equal sums", notes.increments(1, 3, 3) * 100 + notes.decrements(1, 3, 3), 608);
        notes.decrement(3, 3, 99);
        notes.merge(1, 3);
        due.equal("a greater sum of decrements alone", notes.increments(1, 3, 3) * 1000 + notes.decrements(1, 3, 3), 6107);
        for (int by = 0; by < 4; by++) {
            for (int counter = 0; counter < 4; counter++) {
                keepsGreaterSums(due, by, counter, "");
                keepsGreaterSums(due, by, counter, ";add " + by + " a;add " + by + " b;add " + by + " c");
            }
        }
    }

    /** The source knows smaller sums, which are no dots, so it does not matter what dots it has seen. */
    private static void keepsGreaterSums(Checks due, int by, int counter, String dots) {
        String place = by + " " + counter;
        int other = 3 - by;
        Notes notes = Texts.loaded("replicas 4 4 0;inc " + place + " 1;dec " + place + " 1" + dots + ";merge " + other + " " + by
                + ";inc " + place + " 1;dec " + place + " 2");
        due.no("a merge of smaller sums", notes.merge(by, other));
        due.equal("the greater increments", notes.increments(by, counter, by), 2);
        due.equal("the greater decrements", notes.decrements(by, counter, by), 3);
        due.yes("a merge of greater sums", notes.merge(other, by));
        due.equal("the increments after it", notes.increments(other, counter, by), 2);
        due.equal("the decrements after it", notes.decrements(other, counter, by), 3);
    }

    private static void liveInBoth(Checks due) {
        Notes notes = Texts.loaded("replicas 4 0 4; add 3 p; write 3 3 0; merge 0 3; merge 1 3; add 1 a");
        due.no("a merge of what is known", notes.merge(0, 3));
        due.equal("the dot of the tag", notes.tagDot(0, 15, 3), 1);
        due.equal("the entry of the register", notes.entryValue(0, 3, 3), 0);
        due.yes("a merge with something new", notes.merge(0, 1));
        due.equal("the dot of the tag after it", notes.tagDot(0, 15, 3), 1);
        due.equal("the entry of the register after it", notes.entryValue(0, 3, 3), 0);
    }

    private static void keptIfNotSeen(Checks due) {
        Notes tag = Texts.loaded("replicas 2 0 1; add 0 a; merge 1 0; remove 1 a; add 0 a; write 0 0 5; write 1 0 6");
        due.yes("a merge with who has seen the dot before", tag.merge(0, 1));
        due.equal("the dot whose number is 1 greater than the entry", tag.tagDot(0, 0, 0), 2);
        due.equal("the entry that the source has not seen", Texts.register(tag, 0, 0), "5|6");
        Notes seen = Texts.loaded("replicas 2 0 1; add 0 a; write 0 0 5; merge 1 0; remove 1 a; write 1 0 6");
        due.yes("a merge with who has seen both dots", seen.merge(0, 1));
        due.no("the tag whose dot the source has seen", seen.hasTag(0, 0));
        due.equal("the entry that the source has seen", Texts.register(seen, 0, 0), "6");
    }

    private static void addedIfNotSeen(Checks due) {
        Notes notes = Texts.loaded("replicas 4 0 4; add 3 a; write 3 3 0; write 3 2 99; merge 0 3; remove 0 a; write 0 3 1;"
                + " add 3 p");
        notes.merge(0, 3);
        due.equal("the dot that the target has seen and removed", notes.tagDot(0, 0, 3), 0);
        due.equal("the entry that the target has seen and replaced", Texts.register(notes, 0, 3), "1");
        due.equal("the dot whose number is 1 greater than the entry", notes.tagDot(0, 15, 3), 4);
        notes.merge(1, 3);
        due.equal("the first dot", notes.tagDot(1, 0, 3), 1);
        due.equal("the entry with the least value", notes.entryValue(1, 3, 3), 0);
        due.equal("the entry with the greatest value", notes.entryValue(1, 2, 3), 99);
        Notes newer = Texts.loaded("replicas 2 0 1; add 0 a; write 0 0 1; merge 1 0; add 0 a; write 0 0 2; merge 1 0");
        due.equal("the newer dot of the same replica", newer.tagDot(1, 0, 0), 3);
        due.equal("the newer entry of the same replica", Texts.register(newer, 1, 0), "2");
    }

    private static void greaterEntries(Checks due) {
        Notes notes = Texts.loaded("replicas 4 0 0; add 3 a; add 3 b; remove 3 b; add 0 c; merge 1 3; add 3 d; merge 2 1");
        notes.merge(0, 3);
        due.equal("entries of both", notes.versionEntry(0, 0) * 10 + notes.versionEntry(0, 3), 13);
        notes.merge(0, 2);
        due.equal("a smaller entry of the source", notes.versionEntry(0, 3), 3);
        notes.merge(2, 0);
        due.equal("greater entries of the source", notes.versionEntry(2, 0) * 10 + notes.versionEntry(2, 3), 13);
        due.equal("the next dot after merges", notes.addTag(2, 0), 1);
        due.equal("the next dot of who has merged nothing", notes.addTag(3, 0), 4);
    }
}
