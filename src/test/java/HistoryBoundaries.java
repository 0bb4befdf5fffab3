import java.util.ArrayList;
import java.util.List;

/** Boundaries of promises 49 to 51: undo and saved states. */
final class HistoryBoundaries {
    private static final String WRONG_SLOT = "Throws `IndexOutOfBoundsException` if slot is neither 0 nor 1";
    private static final String SPACES = " ".repeat(20);
    /** The calls of promises 4 to 38, with arguments that a new object answers. */
    private static final List<Refusals.Use> QUESTIONS = List.of(Notes::errorKind, Notes::errorOffset, Notes::replicaCount,
            Notes::counterCount, Notes::registerCount, n -> n.versionEntry(1, 0), n -> n.areEqual(0, 1), n -> n.covers(1, 0),
            n -> n.areConcurrent(0, 2), Notes::differentStates, n -> n.counterValue(1, 0), n -> n.increments(1, 0, 0),
            n -> n.decrements(1, 0, 1), n -> n.hasTag(0, 0), n -> n.liveDots(0, 0), n -> n.tagDot(0, 0, 0),
            n -> n.tagCount(0), n -> n.tagAt(0, 0), n -> n.entryCount(0, 0), n -> n.entryValue(0, 0, 0),
            n -> n.greatestValue(0, 0), n -> n.conflicts(0), n -> n.unseenDots(0, 1), n -> n.deltaSize(0, 1),
            n -> n.tagsGained(0, 1), n -> n.tagsLost(0, 1), n -> n.mergedValue(0), Notes::mergedTags, Notes::mergedConflicts,
            Notes::convergenceErrors, Notes::meanTags, Notes::completeShare, Notes::messageCount, n -> n.senderOf(0),
            n -> n.isNews(0, 2));

    private HistoryBoundaries() {
    }

    static void addTo(Sentences sentences) {
        addSlots(sentences);
        addUndo(sentences);
        addUndoLeaves(sentences);
    }

    private static void addSlots(Sentences sentences) {
        sentences.test(49, "`slot`: 0 or 1", HistoryBoundaries::restoresBothSlots);
        sentences.test(49, "The state stays saved.", HistoryBoundaries::staysSaved);
        sentences.test(49, "Returns the number of messages of the restored state.", HistoryBoundaries::restoresMessages0To6);
        sentences.test(49, WRONG_SLOT, due -> Refusals.range(due, Refusals.NO_INDEX, HistoryBoundaries::bothSaved, 0, 1,
                (notes, slot) -> notes.restore(slot)));
        sentences.test(49, "Throws `IllegalStateException` if nothing is saved in the slot",
                HistoryBoundaries::emptySlotIsRefused);
        sentences.test(49, "If several exceptions apply to one call, the method throws the one that is listed first.",
                HistoryBoundaries::wrongSlotComesFirst);
        sentences.test(51, "`slot`: 0 or 1", HistoryBoundaries::savesInBothSlots);
        sentences.test(51, "replaces what was saved there.", HistoryBoundaries::replacesWhatWasSaved);
        sentences.test(51, "This is not a change.", HistoryBoundaries::saveIsNoChange);
        sentences.test(51, "Returns the number of messages.", HistoryBoundaries::savesMessages0To6);
        sentences.test(51, WRONG_SLOT, due -> Refusals.range(due, Refusals.NO_INDEX, HistoryBoundaries::bothSaved, 0, 1,
                (notes, slot) -> notes.save(slot)));
    }

    private static void addUndo(Sentences sentences) {
        sentences.test(50, "The methods in the section \"changes\" record a change whenever they return normally",
                HistoryBoundaries::eachChangeIsRecorded);
        sentences.test(50, "The methods in the section \"changes\"", HistoryBoundaries::questionsAlterNothing);
        sentences.test(50, "even if they alter nothing.", HistoryBoundaries::recordedIfNothingIsAltered);
        sentences.test(50, "The last 10 recorded changes can be undone.", HistoryBoundaries::tenAtMost);
        sentences.test(50, "Undoes the last recorded change that has not been undone.", HistoryBoundaries::lastNotUndone);
        sentences.test(50, "Returns the number of changes that can still be undone.", HistoryBoundaries::leftFrom9To0);
        sentences.test(50, "Throws `IllegalStateException` if there is no change to undo",
                HistoryBoundaries::nothingToUndoIsRefused);
        sentences.test(50, "A method that throws an exception alters nothing, unless its description says otherwise.",
                HistoryBoundaries::refusedCallsAlterNothing);
    }

    private static void addUndoLeaves(Sentences sentences) {
        sentences.test(50, "Undoing a change restores all replicas and messages as they were before it",
                HistoryBoundaries::undoRestoresAll);
        sentences.test(50, "the input buffer", HistoryBoundaries::undoLeavesTheInput);
        sentences.test(50, "the output buffer", HistoryBoundaries::undoLeavesTheOutput);
        sentences.test(50, "the reported error", HistoryBoundaries::undoLeavesTheError);
        sentences.test(50, "and the saved states stay as they are.", HistoryBoundaries::undoLeavesSavedStates);
    }

    // ---- slots

    private static Notes bothSaved() {
        Notes notes = Worlds.busy();
        notes.save(0);
        notes.addTag(1, 9);
        return notes;
    }

    private static void restoresBothSlots(Checks due) {
        Notes notes = new Notes();
        notes.addTag(0, 8);
        String first = Views.world(notes);
        notes.save(0);
        notes.addTag(1, 9);
        notes.send(1);
        String second = Views.world(notes);
        notes.save(1);
        notes.mergeAll();
        notes.restore(0);
        due.equal("all of slot 0", Views.world(notes), first);
        notes.restore(1);
        due.equal("all of slot 1", Views.world(notes), second);
        due.noIndex("slot -1", () -> notes.restore(-1));
        due.noIndex("slot 2", () -> notes.restore(2));
    }

    private static void staysSaved(Checks due) {
        for (int slot = 0; slot < 2; slot++) {
            Notes notes = Worlds.busy();
            notes.save(slot);
            String saved = Views.world(notes);
            for (int time = 1; time <= 12; time++) {
                notes.addTag(0, time);
                notes.drop(0);
                notes.restore(slot);
                due.equal("restore " + time, Views.world(notes), saved);
            }
            notes.undo();
            notes.restore(slot);
            due.equal("restore after an undo", Views.world(notes), saved);
        }
    }

    private static void restoresMessages0To6(Checks due) {
        for (int count = 0; count <= 6; count++) {
            Notes notes = Worlds.busy(3, 1, 1, count);
            String messages = Views.messages(Worlds.busy(3, 1, 1, count));
            notes.save(0);
            for (int i = 0; i < 6 - count; i++) {
                notes.send(2);
            }
            for (int i = 0; i < 6 - count; i++) {
                notes.drop(0);
            }
            due.equal("restore of " + count + " messages", notes.restore(0), count);
            due.equal("messageCount after it", notes.messageCount(), count);
            due.equal("what they bring", Views.messages(notes), messages);
        }
    }

    private static void emptySlotIsRefused(Checks due) {
        Refusals.refused(due, Refusals.BAD_STATE, Worlds::busy, "restore of the empty slot 0", notes -> notes.restore(0));
        Refusals.answered(due, Worlds.busy(), "restore of slot 1", notes -> notes.restore(1));
        Notes notes = new Notes();
        due.badState("restore(0) at first", () -> notes.restore(0));
        due.badState("restore(1) at first", () -> notes.restore(1));
        notes.save(0);
        due.badState("restore(1) after save(0)", () -> notes.restore(1));
        due.equal("restore(0) after save(0)", notes.restore(0), 1);
        notes.undo();
        due.equal("restore(0) after an undo", notes.restore(0), 1);
        Texts.load(notes, "replicas 3 2 1");
        due.badState("restore(0) after load", () -> notes.restore(0));
    }

    private static void wrongSlotComesFirst(Checks due) {
        for (int slot : new int[] {Integer.MIN_VALUE, -1, 2, Integer.MAX_VALUE}) {
            due.noIndex("restore(" + slot + ") with nothing saved", () -> new Notes().restore(slot));
        }
        due.badState("restore(1) with nothing saved", () -> new Notes().restore(1));
    }

    private static void savesInBothSlots(Checks due) {
        for (int slot = 0; slot < 2; slot++) {
            Notes notes = new Notes();
            int other = 1 - slot;
            due.equal("save", notes.save(slot), 1);
            due.badState("the other slot", () -> notes.restore(other));
            due.equal("restore of it", notes.restore(slot), 1);
        }
        due.noIndex("slot -1", () -> new Notes().save(-1));
        due.noIndex("slot 2", () -> new Notes().save(2));
    }

    private static void replacesWhatWasSaved(Checks due) {
        for (int slot = 0; slot < 2; slot++) {
            Notes notes = bothSaved();
            int other = 1 - slot;
            notes.restore(other);
            String kept = Views.world(notes);
            notes.send(2);
            notes.addTag(2, 15);
            String newer = Views.world(notes);
            notes.save(slot);
            notes.mergeAll();
            notes.restore(slot);
            due.equal("what is saved anew", Views.world(notes), newer);
            notes.restore(other);
            due.equal("what is saved in the other slot", Views.world(notes), kept);
        }
    }

    private static void saveIsNoChange(Checks due) {
        Notes notes = new Notes();
        notes.save(0);
        due.badState("undo after save alone", notes::undo);
        notes.addTag(0, 5);
        notes.save(0);
        notes.save(1);
        due.equal("undo after a change and two saves", notes.undo(), 0);
        due.no("the change that is undone", notes.hasTag(0, 5));
        Notes full = Worlds.busy();
        full.save(1);
        due.equal("undo after ten changes and a save", full.undo(), 9);
    }

    private static void savesMessages0To6(Checks due) {
        for (int count = 0; count <= 6; count++) {
            due.equal("save", Worlds.busy(3, 1, 1, count).save(0), count);
            due.equal("save over another one", Worlds.busy(3, 1, 1, count).save(1), count);
        }
    }

    // ---- undo

    /** Each change of the section, as a call that alters something in a new object. */
    private static List<Refusals.Use> changes() {
        return List.of(notes -> notes.increment(0, 0, 1), notes -> notes.decrement(2, 1, 99), notes -> notes.addTag(0, 0),
                notes -> notes.removeTag(1, 1), notes -> notes.write(0, 0, 0), notes -> notes.merge(2, 1),
                Notes::mergeAll, notes -> notes.send(1), notes -> notes.deliver(0, 2), notes -> notes.drop(0),
                notes -> notes.restore(0));
    }

    /** A new object whose saved state is another one. */
    private static Notes savedBefore() {
        Notes notes = new Notes();
        notes.send(2);
        notes.addTag(2, 9);
        notes.save(0);
        notes.undo();
        notes.undo();
        return notes;
    }

    private static void eachChangeIsRecorded(Checks due) {
        for (int i = 0; i < changes().size(); i++) {
            Notes notes = savedBefore();
            due.badState("undo ahead of change " + i, notes::undo);
            changes().get(i).of(notes);
            due.equal("undo of change " + i, notes.undo(), 0);
            due.badState("undo once more after change " + i, notes::undo);
        }
        List<Refusals.Use> others = new ArrayList<>(QUESTIONS);
        others.addAll(List.of(notes -> notes.append(0, 0, 0, 0, 0), notes -> notes.writeTags(0),
                notes -> notes.writeRegister(0, 0), notes -> notes.save(1)));
        for (int i = 0; i < others.size(); i++) {
            Notes fresh = new Notes();
            Refusals.answered(due, fresh, "call " + i + " that is no change", others.get(i));
            due.badState("undo after call " + i + " that is no change", fresh::undo);
        }
    }

    private static void questionsAlterNothing(Checks due) {
        for (Refusals.Use question : QUESTIONS) {
            Refusals.unchanged(due, Worlds::busy, question);
        }
    }

    private static void recordedIfNothingIsAltered(Checks due) {
        Notes notes = Texts.loaded("replicas 2 1 1; add 0 a; merge 1 0; send 0");
        notes.save(0);
        String before = Views.world(notes);
        List<Refusals.Use> idle = List.of(n -> n.merge(0, 1), n -> n.merge(1, 1), Notes::mergeAll, n -> n.deliver(0, 1),
                n -> n.deliver(0, 0), n -> n.restore(0));
        for (int i = 0; i < idle.size(); i++) {
            idle.get(i).of(notes);
            due.equal("all after idle change " + i, Views.world(notes), before);
        }
        for (int left = idle.size() - 1; left >= 0; left--) {
            due.equal("undo of an idle change", notes.undo(), left);
        }
        due.badState("undo of one more", notes::undo);
    }

    private static void tenAtMost(Checks due) {
        for (int count = 0; count <= 33; count++) {
            Notes notes = new Notes();
            List<String> worlds = new ArrayList<>();
            for (int change = 0; change < count; change++) {
                worlds.add(Views.world(notes));
                notes.addTag(change % 3, change % 16);
            }
            int undoable = Math.min(count, 10);
            for (int left = undoable - 1; left >= 0; left--) {
                due.equal("undo after " + count + " changes", notes.undo(), left);
                due.equal("all after it", Views.world(notes), worlds.get(count - undoable + left));
            }
            due.badState("undo of one more after " + count + " changes", notes::undo);
        }
    }

    private static void lastNotUndone(Checks due) {
        for (int undone = 0; undone <= 10; undone++) {
            Notes notes = new Notes();
            List<String> worlds = new ArrayList<>();
            for (int change = 0; change < 10; change++) {
                worlds.add(Views.world(notes));
                notes.addTag(change % 3, change);
            }
            for (int i = 0; i < undone; i++) {
                notes.undo();
                worlds.remove(worlds.size() - 1);
            }
            // of changes that are undone and made anew, there are still no more than ten
            due.equal("a change after " + undone + " undone ones", notes.addTag(2, 15) > 0 ? notes.undo() : -1,
                    Math.min(10 - undone, 9));
            for (int left = Math.min(10 - undone, 9) - 1; left >= 0; left--) {
                due.equal("undo of an older one", notes.undo(), left);
                due.equal("all after it", Views.world(notes), worlds.get(left + (undone == 0 ? 1 : 0)));
            }
            due.badState("undo of one more", notes::undo);
        }
    }

    private static void leftFrom9To0(Checks due) {
        Notes notes = Worlds.busy();
        for (int left = 9; left >= 0; left--) {
            due.equal("undo", notes.undo(), left);
        }
        notes.send(0);
        due.equal("undo of a single change", notes.undo(), 0);
        for (int i = 0; i < 5; i++) {
            notes.mergeAll();
        }
        due.equal("undo of one of five", notes.undo(), 4);
        notes.mergeAll();
        due.equal("undo of one that is made anew", notes.undo(), 4);
    }

    private static void nothingToUndoIsRefused(Checks due) {
        Refusals.refused(due, Refusals.BAD_STATE, Notes::new, "undo at first", Notes::undo);
        Refusals.refused(due, Refusals.BAD_STATE, HistoryBoundaries::allUndone, "undo after ten", Notes::undo);
        Refusals.refused(due, Refusals.BAD_STATE, () -> Texts.loaded("replicas 2 1 1;add 0 a;send 0"), "undo after load",
                Notes::undo);
        Refusals.answered(due, Worlds.busy(), "undo of the first of ten", Notes::undo);
    }

    private static Notes allUndone() {
        Notes notes = Worlds.busy();
        for (int i = 0; i < 10; i++) {
            notes.undo();
        }
        return notes;
    }

    /** All refusals in a row, on one object: a bit that each of them changed would add up. */
    private static void refusedCallsAlterNothing(Checks due) {
        Notes notes = Worlds.busy(3, 2, 2, 6);
        notes.removeTag(0, 3);
        for (int wrong : new int[] {Integer.MIN_VALUE, -1, 16, Integer.MAX_VALUE}) {
            refuseIndices(due, notes, wrong);
        }
        due.badArgument("increment", () -> notes.increment(0, 0, 0));
        due.badArgument("decrement", () -> notes.decrement(0, 0, 100));
        due.badArgument("write", () -> notes.write(0, 0, 100));
        due.badState("removeTag", () -> notes.removeTag(0, 3));
        due.badState("send", () -> notes.send(0));
        due.badState("restore", () -> notes.restore(0));
        Notes untouched = Worlds.busy(3, 2, 2, 6);
        untouched.removeTag(0, 3);
        due.equal("all after refusals", Views.everything(notes), Views.everything(untouched));
    }

    private static void refuseIndices(Checks due, Notes notes, int wrong) {
        List<Refusals.Use> calls = List.of(n -> n.increment(wrong, 0, 1), n -> n.decrement(0, wrong, 1), n -> n.addTag(0, wrong),
                n -> n.removeTag(0, wrong), n -> n.write(0, wrong, 1), n -> n.merge(0, wrong), n -> n.merge(wrong, 0),
                n -> n.send(wrong), n -> n.deliver(wrong, 0), n -> n.deliver(0, wrong), n -> n.drop(wrong));
        for (int i = 0; i < calls.size(); i++) {
            int call = i;
            due.noIndex("call " + i + " with " + wrong, () -> calls.get(call).of(notes));
        }
        List<Refusals.Use> others = List.of(n -> n.restore(wrong), n -> n.save(wrong), n -> n.writeTags(wrong),
                n -> n.writeRegister(0, wrong), n -> n.load(wrong == 16 ? 41 : wrong), n -> n.outputByte(wrong == 16 ? 33 : wrong));
        for (int i = 0; i < others.size(); i++) {
            int call = i;
            due.noIndex("call " + i + " of others with " + wrong, () -> others.get(call).of(notes));
        }
    }

    // ---- what undo leaves

    private static void undoRestoresAll(Checks due) {
        String before = Views.world(savedBefore());
        String messages = Views.messages(savedBefore());
        for (int i = 0; i < changes().size(); i++) {
            Notes notes = savedBefore();
            changes().get(i).of(notes);
            due.no("change " + i + " alters nothing", Views.world(notes).equals(before));
            notes.undo();
            due.equal("all after undo of change " + i, Views.world(notes), before);
            due.equal("the messages after undo of change " + i, Views.messages(notes), messages);
        }
        Notes all = savedBefore();
        for (Refusals.Use change : List.of(changes().get(2), changes().get(8), changes().get(9), changes().get(6))) {
            change.of(all);
        }
        for (int left = 3; left >= 0; left--) {
            all.undo();
        }
        due.equal("all after undo of four changes", Views.world(all), before);
        Notes six = Worlds.busy(3, 1, 1, 6);
        String full = Views.messages(Worlds.busy(3, 1, 1, 6));
        six.drop(0);
        six.send(2);
        six.drop(5);
        for (int i = 0; i < 3; i++) {
            six.undo();
        }
        due.equal("the six messages after undo", Views.messages(six), full);
    }

    private static void undoLeavesTheInput(Checks due) {
        Notes notes = new Notes();
        notes.addTag(0, 5);
        Texts.append(notes, Texts.bytes("replicas 2 1 1;add 0"));
        notes.addTag(0, 6);
        Texts.append(notes, Texts.bytes(" p" + SPACES.substring(2)));
        notes.undo();
        notes.undo();
        due.noIndex("load(41) after undo", () -> notes.load(41));
        due.equal("load(40) after undo", notes.load(40), 2);
        due.equal("the tags of the text", Texts.tags(notes, 0), "p");
    }

    private static void undoLeavesTheOutput(Checks due) {
        Notes notes = new Notes();
        notes.addTag(0, 15);
        notes.writeTags(0);
        notes.undo();
        due.equal("the output after undo", Views.output(notes), "ap");
        notes.addTag(0, 14);
        notes.writeRegister(0, 0);
        notes.undo();
        due.equal("the newer output after undo", Views.output(notes), "7");
    }

    private static void undoLeavesTheError(Checks due) {
        Notes notes = new Notes();
        notes.addTag(0, 15);
        due.equal("an error", Texts.error(notes, "replicas 2 1 9"), "2@13");
        due.equal("undo after an error", notes.undo(), 0);
        due.equal("the error after undo", Views.error(notes), "2@13");
        Notes none = Texts.loaded("replicas 2 1 1");
        none.addTag(0, 15);
        none.undo();
        due.equal("no error after undo", Views.error(none), "0@-1");
    }

    private static void undoLeavesSavedStates(Checks due) {
        Notes notes = new Notes();
        notes.addTag(0, 15);
        notes.send(0);
        notes.save(0);
        String saved = Views.world(notes);
        notes.addTag(0, 14);
        notes.save(1);
        for (int i = 0; i < 3; i++) {
            notes.undo();
        }
        due.equal("restore(0) after undo", notes.restore(0), 2);
        due.equal("all of slot 0", Views.world(notes), saved);
        due.equal("restore(1) after undo", notes.restore(1), 2);
        due.yes("the tag of slot 1", notes.hasTag(0, 14));
        notes.undo();
        due.equal("all after undo of restore(1)", Views.world(notes), saved);
        due.equal("restore(1) after its undo", notes.restore(1), 2);
    }
}
