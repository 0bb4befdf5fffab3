/** Boundaries of promises 1 to 3: a new object, append and load. */
final class InputBoundaries {
    private static final int MIN = Integer.MIN_VALUE;
    private static final int MAX = Integer.MAX_VALUE;
    private static final int[] SIGNS = {0x80, 0xff, 'x', ';', 0};

    private InputBoundaries() {
    }

    static void addTo(Sentences sentences) {
        addNewObject(sentences);
        addAppend(sentences);
        addLoad(sentences);
    }

    private static void addNewObject(Sentences sentences) {
        sentences.test(1, "A new simulator is in the state that the text \"replicas 3 2 1; inc 0 0 5; dec 1 0 2; add 0 a;"
                + " add 1 b; send 0; merge 1 0; remove 1 a; add 0 a; write 0 0 7; write 2 0 9; add 2 c\" describes,"
                + " and its buffers are empty.", InputBoundaries::newObjectIsAsTheText);
        sentences.test(1, "and its buffers are empty", InputBoundaries::newBuffersAreEmpty);
        sentences.test(1, "An object is used for at most 512 calls after it has been made; what later calls answer is free.",
                InputBoundaries::callsUpTo512);
        sentences.test(1, "`NONE = -1`", due -> due.equal("NONE", OfflineNotes.NONE, -1));
    }

    private static void addAppend(Sentences sentences) {
        sentences.test(2, "Appends 20 bytes to the input buffer", InputBoundaries::appendAdds20Bytes);
        sentences.test(2, "the four bytes of each parameter in order, most significant byte first.",
                InputBoundaries::appendKeepsEachByte);
        sentences.test(2, "Returns the new length of the buffer.", InputBoundaries::appendCountsFrom20To600);
        sentences.test(2, "Throws `IllegalStateException` if the buffer would be longer than 600 bytes",
                InputBoundaries::appendStopsAt600);
    }

    private static void addLoad(Sentences sentences) {
        sentences.test(3, "Parses the first bytes of the input buffer as a description",
                InputBoundaries::loadEndsAtLength);
        sentences.test(3, "replaces all replicas and messages by the result.", InputBoundaries::loadReplacesAll);
        sentences.test(3, "replaces all replicas and messages", InputBoundaries::loadLeavesNothing);
        sentences.test(3, "The recorded changes", InputBoundaries::loadDiscardsChanges);
        sentences.test(3, "and the saved states are discarded.", InputBoundaries::loadDiscardsSavedStates);
        sentences.test(3, "The output buffer stays as it is.", InputBoundaries::loadLeavesTheOutput);
        sentences.test(3, "The input buffer is empty afterwards", InputBoundaries::loadEmptiesTheInput);
        sentences.test(3, "also if the text has an error.", InputBoundaries::errorEmptiesTheInput);
        sentences.test(3, "`length`: the number of bytes to parse, 0 to the length of the buffer",
                InputBoundaries::loadOfEachLength);
        sentences.test(3, "Returns the number of replicas.", InputBoundaries::loadAnswersReplicas);
        sentences.test(3, "Throws `IndexOutOfBoundsException` if length is out of range",
                InputBoundaries::loadBeyondTheInput);
        sentences.test(3, "the input buffer and the reported error stay as they are",
                InputBoundaries::loadBeyondTheInputChangesNothing);
        sentences.test(3, "Throws `IllegalArgumentException` if the text has an error",
                InputBoundaries::loadOfAnError);
        sentences.test(3, "only the input buffer and the reported error change",
                InputBoundaries::errorChangesNothingElse);
        sentences.test(3, "If several exceptions apply to one call, the method throws the one that is listed first.",
                InputBoundaries::wrongLengthComesFirst);
    }

    // ---- a new object

    private static void newObjectIsAsTheText(Checks due) {
        String text = "replicas 3 2 1; inc 0 0 5; dec 1 0 2; add 0 a; add 1 b; send 0; merge 1 0; remove 1 a; add 0 a;"
                + " write 0 0 7; write 2 0 9; add 2 c";
        due.equal("a new object", Views.everything(new Notes()), Views.everything(Texts.loaded(text)));
        due.equal("its first replica", Views.state(new Notes(), 0),
                "3 +5-0 +0-0 a2 =7 ; 0 +0-0 +0-0 =-1 ; 0 +0-0 +0-0 =-1 ; ");
    }

    private static void newBuffersAreEmpty(Checks due) {
        due.noIndex("outputByte(0) at first", () -> new Notes().outputByte(0));
        due.noIndex("load(1) at first", () -> new Notes().load(1));
        due.badArgument("load(0) at first", () -> new Notes().load(0));
        due.equal("append at first", new Notes().append(0, 0, 0, 0, 0), 20);
    }

    private static void callsUpTo512(Checks due) {
        Notes adding = new Notes();
        Notes counting = new Notes();
        Notes merging = new Notes();
        for (int call = 1; call <= 512; call++) {
            due.equal("addTag, call " + call, adding.addTag(0, call % 16), 3 + call);
            due.equal("increment, call " + call, counting.increment(0, 0, 99), 5 + 99 * call);
            boolean changed = merging.merge(call % 2, 1 - call % 2);
            due.that("merge, call " + call + " answered " + changed, changed == call < 3);
        }
    }

    // ---- promise 2

    private static int append(Notes notes) {
        return notes.append(Texts.SPACES, Texts.SPACES, Texts.SPACES, Texts.SPACES, Texts.SPACES);
    }

    private static void appendAdds20Bytes(Checks due) {
        for (int rows = 1; rows <= 30; rows++) {
            Notes notes = new Notes();
            for (int i = 0; i < rows; i++) {
                append(notes);
            }
            int length = 20 * rows;
            due.noIndex("load of one byte more than " + length, () -> notes.load(length + 1));
            due.badArgument("load of " + length, () -> notes.load(length));
            due.equal("the end of " + length + " spaces", notes.errorOffset(), length);
        }
    }

    private static void appendKeepsEachByte(Checks due) {
        for (int sign : SIGNS) {
            for (int at = 0; at < 20; at++) {
                byte[] row = Texts.bytes(" ".repeat(20));
                row[at] = (byte) sign;
                Notes notes = new Notes();
                Texts.append(notes, row);
                due.badArgument("load with byte " + sign, () -> notes.load(20));
                due.equal("the place of byte " + sign, Views.error(notes), "1@" + at);
            }
        }
        Notes order = new Notes();
        // "repl" "icas" " 4 3" " 2;i" "nc 3"
        order.append(0x7265706c, 0x69636173, 0x20342033, 0x20323b69, 0x6e632033);
        // " 2 1" "7;ad" "d 2 " "p;ad" "d 1b"
        order.append(0x20322031, 0x373b6164, 0x64203220, 0x703b6164, 0x64203162);
        due.equal("load of two rows but for the last byte and a line", order.load(33), 4);
        due.equal("the world of two rows", Views.world(order), Views.world(Texts.loaded(
                "replicas 4 3 2;inc 3 2 17;add 2 p")));
    }

    private static void appendCountsFrom20To600(Checks due) {
        Notes notes = new Notes();
        for (int call = 1; call <= 30; call++) {
            due.equal("append, call " + call, append(notes), 20 * call);
        }
        due.badState("append, call 31", () -> append(notes));
        due.badArgument("load of all", () -> notes.load(600));
        due.equal("append to an emptied buffer", append(notes), 20);
    }

    /** A busy object with a text that is followed by rows of spaces. */
    private static Notes withRows(int rows) {
        Notes notes = Worlds.busyWithoutInput(3, 2, 2, 3);
        Texts.append(notes, Texts.bytes("replicas 2 1 1;add 1 p; write 0 0 5     "));
        for (int row = 2; row < rows; row++) {
            append(notes);
        }
        return notes;
    }

    private static void appendStopsAt600(Checks due) {
        due.equal("append to 580 bytes", append(withRows(29)), 600);
        Refusals.refused(due, Refusals.BAD_STATE, () -> withRows(30), "append to 600 bytes",
                notes -> notes.append(MIN, -1, 0, 1, MAX));
        Notes full = withRows(30);
        due.badState("append to 600 bytes", () -> append(full));
        due.equal("load of 600 bytes", full.load(600), 2);
        due.equal("the tags of 600 bytes", Texts.tags(full, 1), "p");
        Notes last = new Notes();
        Texts.append(last, Texts.bytes("replicas 2 1 1" + " ".repeat(577) + ";add 1 n "));
        due.equal("load of a line at the end of 600 bytes", last.load(600), 2);
        due.equal("the tags of that line", Texts.tags(last, 1), "n");
    }

    // ---- promise 3

    private static void loadEndsAtLength(Checks due) {
        Notes number = new Notes();
        Texts.append(number, Texts.bytes("replicas 2 1 1; inc 0 0 12"));
        due.equal("load up to the middle of a number", number.load(25), 2);
        due.equal("the shorter number", number.counterValue(0, 0), 1);
        Notes word = new Notes();
        Texts.append(word, Texts.bytes("replicas 2 1 1; add 0 ab"));
        due.equal("load up to the middle of a word", word.load(23), 2);
        due.equal("the shorter word", Texts.tags(word, 0), "a");
        Notes wrong = new Notes();
        Texts.append(wrong, Texts.bytes("replicas 2 1 1 !"));
        due.equal("load up to a wrong byte", wrong.load(15), 2);
        Notes cut = new Notes();
        Texts.append(cut, Texts.bytes("replicas 2 1 1"));
        due.badArgument("load of a part that is too short", () -> cut.load(13));
        due.equal("the end of the part", Views.error(cut), "1@13");
    }

    private static void loadReplacesAll(Checks due) {
        Notes notes = Worlds.busyWithoutInput(4, 4, 4, 6);
        due.equal("load after all has been used", Texts.load(notes, "replicas 1 0 0"), 1);
        due.equal("the least world", Views.world(notes), "100\n0 ; \n");
        due.equal("load of the greatest world", Texts.load(notes, "replicas 4 4 4"), 4);
        due.equal("the greatest world", Views.world(notes), Views.world(Worlds.empty(4, 4, 4)));
        due.equal("nothing is left of the first world", notes.mergedTags() + notes.mergedValue(3) + notes.messageCount(), 0);
        due.equal("all states are empty", notes.differentStates() * 100 + notes.deltaSize(0, 3) + notes.entryCount(0, 3), 100);
        due.equal("the first message", notes.send(3), 0);
        due.equal("what it brings", Views.messages(notes), "message 0: " + Views.state(notes, 3) + "\n");
    }

    /** An object may use its rows again, but nothing of an earlier world comes to light. */
    private static void loadLeavesNothing(Checks due) {
        Notes notes = Worlds.crowded();
        for (int time = 1; time <= 4; time++) {
            Texts.load(notes, "replicas 4 4 4");
            due.equal("differentStates of an empty world", notes.differentStates(), 1);
            due.equal("mergeAll of an empty world", notes.mergeAll(), 0);
            due.equal("all of an empty world", Views.world(notes), Views.world(Worlds.empty(4, 4, 4)));
            Texts.load(notes, "replicas 4 4 4;inc 3 3 9;dec 3 3 9;add 3 p;write 3 3 99;write 0 0 99;send 3;add 0 a;merge 3 0");
            due.equal("mergeAll of another world", notes.mergeAll(), 3);
        }
    }

    private static void loadDiscardsChanges(Checks due) {
        Notes notes = Worlds.busyWithoutInput(3, 2, 2, 3);
        Texts.load(notes, "replicas 3 2 2; add 0 a; send 0");
        due.badState("undo after load", notes::undo);
        notes.addTag(0, 1);
        due.equal("undo of the first change after load", notes.undo(), 0);
        due.badState("undo of a change before load", notes::undo);
        due.equal("the tags that the text tells", Texts.tags(notes, 0), "a");
    }

    private static void loadDiscardsSavedStates(Checks due) {
        Notes notes = Worlds.busyWithoutInput(3, 2, 2, 3);
        notes.save(0);
        notes.save(1);
        Texts.load(notes, "replicas 3 2 2; add 0 a; send 0");
        due.badState("restore(0) after load", () -> notes.restore(0));
        due.badState("restore(1) after load", () -> notes.restore(1));
        notes.save(1);
        due.badState("restore(0) after save(1)", () -> notes.restore(0));
        due.equal("restore(1) after save(1)", notes.restore(1), 1);
        due.equal("the tags of what was saved after load", Texts.tags(notes, 0), "a");
    }

    private static void loadLeavesTheOutput(Checks due) {
        Notes notes = Worlds.full();
        due.equal("an empty output", Views.output(notes), "");
        Texts.load(notes, "replicas 4 4 4; add 0 b");
        due.equal("an empty output after load", Views.output(notes), "");
        Notes all = Worlds.full();
        all.mergeAll();
        all.writeTags(0);
        Texts.load(all, "replicas 1 0 0");
        due.equal("a full output after load", Views.output(all), "a!b!c!d!e!f!g!h!i!j!k!l!m!n!o!p!");
        Texts.error(all, "");
        due.equal("a full output after an error", Views.output(all), "a!b!c!d!e!f!g!h!i!j!k!l!m!n!o!p!");
    }

    private static void loadEmptiesTheInput(Checks due) {
        for (int length : new int[] {22, 599, 600}) {
            Notes notes = withRows(30);
            due.equal("load of " + length + " of 600 bytes", notes.load(length), 2);
            due.noIndex("load(1) after load", () -> notes.load(1));
            due.equal("append after load", append(notes), 20);
            due.badArgument("load of these spaces", () -> notes.load(20));
        }
    }

    private static void errorEmptiesTheInput(Checks due) {
        Notes notes = withRows(30);
        due.badArgument("load of a part that is too short", () -> notes.load(10));
        due.noIndex("load(1) after an error", () -> notes.load(1));
        due.equal("append after an error", append(notes), 20);
        due.badArgument("load of nothing, with 20 bytes", () -> notes.load(0));
        due.noIndex("load(1) after an error with length 0", () -> notes.load(1));
    }

    private static void loadOfEachLength(Checks due) {
        for (int length = 0; length <= 40; length++) {
            Notes notes = new Notes();
            append(notes);
            append(notes);
            int first = length;
            due.badArgument("load(" + length + ") of 40 spaces", () -> notes.load(first));
            due.equal("the end of them", Views.error(notes), "1@" + length);
        }
        due.badArgument("load(0) of an empty buffer", () -> new Notes().load(0));
        due.equal("load(600) of a full buffer", withRows(30).load(600), 2);
        due.equal("load(599) of a full buffer", withRows(30).load(599), 2);
    }

    private static void loadAnswersReplicas(Checks due) {
        for (int replicas = 1; replicas <= 4; replicas++) {
            due.equal("load", Texts.load(new Notes(), "replicas " + replicas + " 3 2"), replicas);
        }
    }

    private static void loadBeyondTheInput(Checks due) {
        for (int length : new int[] {MIN, -1, 1, 20, 600, 601, MAX}) {
            due.noIndex("load(" + length + ") of nothing", () -> new Notes().load(length));
        }
        for (int length : new int[] {MIN, -1, 41, 600, 601, MAX}) {
            due.noIndex("load(" + length + ") of 40 bytes", () -> withRows(2).load(length));
        }
        for (int length : new int[] {MIN, -1, 601, MAX}) {
            due.noIndex("load(" + length + ") of 600 bytes", () -> withRows(30).load(length));
        }
    }

    private static void loadBeyondTheInputChangesNothing(Checks due) {
        for (int length : new int[] {MIN, -1, 601, MAX}) {
            Refusals.refused(due, Refusals.NO_INDEX, InputBoundaries::threeRows, "load(" + length + ") of 60 bytes",
                    notes -> notes.load(length));
        }
        Refusals.refused(due, Refusals.NO_INDEX, InputBoundaries::threeRows, "load(61) of 60 bytes",
                notes -> notes.load(61));
        Refusals.refused(due, Refusals.NO_INDEX, Notes::new, "load(1) of nothing", notes -> notes.load(1));
        Notes notes = threeRows();
        due.noIndex("load(-1)", () -> notes.load(-1));
        due.equal("the error after it", Views.error(notes), "2@11");
        due.equal("the whole input after it", notes.load(60), 2);
    }

    private static Notes threeRows() {
        return withRows(3);
    }

    private static void loadOfAnError(Checks due) {
        String six = "replicas 2 0 0;send 0;send 0;send 0;send 0;send 0;send 0";
        String[] texts = {"", "replicas 2 0", "replicas 0 0 0", "replicas 2 0 0;remove 0 a", six + ";send 0"};
        for (String text : texts) {
            due.badArgument("load of \"" + text + "\"", () -> Texts.load(new Notes(), text));
        }
        due.equal("load of six messages", Texts.load(new Notes(), six), 2);
        due.equal("load of a present tag", Texts.load(new Notes(), "replicas 2 0 0;add 0 a;remove 0 a"), 2);
    }

    private static void errorChangesNothingElse(Checks due) {
        String late = "replicas 4 4 4;inc 0 0 5;add 1 b;write 0 0 3;send 0;send 1;send 0;send 1;send 0;send 1;";
        String[] texts = {"", "replicas", "replicas 1 1 x", "replicas 1 1 5", late + "send 0", late + "remove 0 b",
            late + "add 4 a", late + "merge 0 1;deliver 5 0;?"};
        String before = Views.allButInput(Worlds.busyWithoutInput(3, 2, 2, 3));
        for (String text : texts) {
            Notes notes = Worlds.busyWithoutInput(3, 2, 2, 3);
            due.badArgument("load of \"" + text + "\"", () -> Texts.load(notes, text));
            due.equal("all after \"" + text + "\"", Views.allButInput(notes), before);
        }
    }

    private static void wrongLengthComesFirst(Checks due) {
        Notes notes = new Notes();
        notes.append(0, 0, 0, 0, 0);
        due.noIndex("load(21) of an error", () -> notes.load(21));
        due.noIndex("load(-1) of an error", () -> notes.load(-1));
        due.badArgument("load(20) of an error", () -> notes.load(20));
    }
}
