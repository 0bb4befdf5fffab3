import java.util.function.IntUnaryOperator;

/** For each promise of the document: ordinary inputs, the edges that it names, and wrong inputs. */
public final class PromiseTests {
    private static final Checks CHECKS = new Checks("PromiseTests");
    private static final int MIN = Integer.MIN_VALUE;
    private static final int MAX = Integer.MAX_VALUE;
    /** Four replicas, of which 0 has added a, 1 has got it and written, and 2 has removed it. */
    private static final String FOUR = "replicas 4 4 4; add 0 a; inc 0 3 9; write 0 3 10; merge 1 0; merge 2 0;"
            + " remove 2 a; write 1 3 20; write 2 3 5; add 1 a; add 3 p; dec 3 3 99";

    private PromiseTests() {
    }

    public static void main(String[] args) {
        promise1NewObject();
        promise2Append();
        promise3LoadReplaces();
        promise3LoadThrows();
        promise3LoadReadsTheGrammar();
        promise3LoadRunsEachLine();
        promise4And5SyntaxErrors();
        promise4And5RangeErrors();
        promise4And5OtherErrors();
        promise4And5ErrorIsKept();
        promise6To8Counts();
        promise9VersionEntry();
        promise10AreEqual();
        promise11And12CoversAndConcurrent();
        promise13DifferentStates();
        promise14CounterValue();
        promise15And16Sums();
        promise17To19Dots();
        promise20And21PresentTags();
        promise22To24Entries();
        promise25Conflicts();
        promise26UnseenDots();
        promise27DeltaSize();
        promise28And29TagsGainedAndLost();
        promise30To32AllMerged();
        promise33ConvergenceErrors();
        promise34MeanTags();
        promise35CompleteShare();
        promise36To38Messages();
        promise39And40ChangeACounter();
        promise41AddTag();
        promise42RemoveTag();
        promise43Write();
        promise44Merge();
        promise44MergeRules();
        promise45MergeAll();
        promise46Send();
        promise47Deliver();
        promise48Drop();
        promise49Restore();
        promise50Undo();
        promise50UndoTakesBackEachChange();
        promise50OnlyChangesAreRecorded();
        promise51Save();
        promise52WriteTags();
        promise53WriteRegister();
        promise54OutputByte();
        anyArgumentsAreAnswered();
        CHECKS.finish();
    }

    private static void throwsBeyond(String what, int first, int last, IntUnaryOperator call) {
        for (int wrong : new int[] {MIN, first - 1, last + 1, MAX}) {
            CHECKS.noIndex(what + " with " + wrong, () -> call.applyAsInt(wrong));
        }
        for (int right = first; right <= last; right++) {
            int argument = right;
            boolean answers = true;
            try {
                call.applyAsInt(argument);
            } catch (RuntimeException thrown) {
                answers = false;
            }
            CHECKS.yes(what + " with " + argument + " answers", answers);
        }
    }

    private static int one(boolean answer) {
        return answer ? 1 : 0;
    }

    // ---- promises 1 to 5

    private static void promise1NewObject() {
        Notes notes = new Notes();
        CHECKS.equal("NONE", OfflineNotes.NONE, -1);
        CHECKS.equal("replicas at first", notes.replicaCount(), 3);
        CHECKS.equal("counters at first", notes.counterCount(), 2);
        CHECKS.equal("registers at first", notes.registerCount(), 1);
        CHECKS.equal("messages at first", notes.messageCount(), 1);
        CHECKS.equal("replica 0 at first", Views.state(notes, 0), "3 +5-0 +0-0 a2 =7 ; 0 +0-0 +0-0 =-1 ; 0 +0-0 +0-0 =-1 ; ");
        CHECKS.equal("replica 1 at first", Views.state(notes, 1), "1 +5-0 +0-0 =-1 ; 1 +0-2 +0-0 b1 =-1 ; 0 +0-0 +0-0 =-1 ; ");
        CHECKS.equal("replica 2 at first", Views.state(notes, 2), "0 +0-0 +0-0 =-1 ; 0 +0-0 +0-0 =-1 ; 2 +0-0 +0-0 c2 =9 ; ");
        CHECKS.equal("sender at first", notes.senderOf(0), 0);
        CHECKS.noIndex("the output at first", () -> notes.outputByte(0));
        CHECKS.noIndex("the input at first", () -> notes.load(1));
        CHECKS.badState("nothing to undo at first", notes::undo);
        CHECKS.badState("slot 0 at first", () -> notes.restore(0));
        CHECKS.badState("slot 1 at first", () -> notes.restore(1));
        Notes same = Texts.loaded("replicas 3 2 1; inc 0 0 5; dec 1 0 2; add 0 a; add 1 b; send 0; merge 1 0;"
                + " remove 1 a; add 0 a; write 0 0 7; write 2 0 9; add 2 c");
        CHECKS.equal("a new object and its text", Views.world(notes), Views.world(same));
        notes.merge(0, 1);
        CHECKS.equal("another object stays as it is", Views.state(new Notes(), 0), Views.state(same, 0));
    }

    private static void promise2Append() {
        Notes notes = new Notes();
        for (int i = 1; i <= 30; i++) {
            CHECKS.equal("append, call " + i, notes.append(MIN, -1, 0, 1, MAX), 20 * i);
        }
        CHECKS.badState("append to 600 bytes", () -> notes.append(0, 0, 0, 0, 0));
        CHECKS.equal("error kind after append", notes.errorKind(), 0);
        CHECKS.badArgument("load of 600 bytes", () -> notes.load(600));
        CHECKS.equal("append to an emptied buffer", notes.append(0, 0, 0, 0, 0), 20);

        Notes order = new Notes();
        // "repl" "icas" " 2 1" " 3; " "    "
        order.append(0x7265706c, 0x69636173, 0x20322031, 0x20333b20, 0x20202020);
        // "inc " "1 0 " "9;ad" "d 0 " "b   "
        CHECKS.equal("the second append", order.append(0x696e6320, 0x31203020, 0x393b6164, 0x64203020, 0x62202020), 40);
        CHECKS.equal("load of two rows", order.load(40), 2);
        CHECKS.equal("counter of two rows", order.counterValue(1, 0), 9);
        CHECKS.equal("registers of two rows", order.registerCount(), 3);
        CHECKS.yes("tag of two rows", order.hasTag(0, 1));
    }

    private static void promise3LoadReplaces() {
        Notes notes = new Notes();
        notes.writeTags(0);
        notes.save(0);
        notes.save(1);
        notes.addTag(0, 5);
        CHECKS.equal("load", Texts.load(notes, "replicas 2 1 4; add 1 d"), 2);
        CHECKS.equal("counters after load", notes.counterCount(), 1);
        CHECKS.equal("registers after load", notes.registerCount(), 4);
        CHECKS.equal("messages after load", notes.messageCount(), 0);
        CHECKS.equal("replica 0 after load", Views.state(notes, 0), "0 +0-0 =-1 =-1 =-1 =-1 ; 0 +0-0 =-1 =-1 =-1 =-1 ; ");
        CHECKS.equal("replica 1 after load", Views.state(notes, 1), "0 +0-0 =-1 =-1 =-1 =-1 ; 1 +0-0 d1 =-1 =-1 =-1 =-1 ; ");
        CHECKS.noIndex("a replica that is gone", () -> notes.tagCount(2));
        CHECKS.badState("undo after load", notes::undo);
        CHECKS.badState("restore(0) after load", () -> notes.restore(0));
        CHECKS.badState("restore(1) after load", () -> notes.restore(1));
        CHECKS.equal("the output after load", notes.outputByte(0), 'a');
        CHECKS.noIndex("the input after load", () -> notes.load(1));
        CHECKS.equal("load of more replicas", Texts.load(notes, "replicas 4 4 4"), 4);
        CHECKS.equal("states of an empty world", notes.differentStates(), 1);
        CHECKS.equal("an empty world", notes.mergedTags() + notes.mergedValue(3) + notes.unseenDots(3, 0), 0);
        CHECKS.equal("load of fewer replicas", Texts.load(notes, "replicas 1 0 0"), 1);
    }

    private static void promise3LoadThrows() {
        Notes notes = new Notes();
        CHECKS.equal("a first error", Texts.error(notes, "replicas 9 1 1"), "2@9");
        notes.append(0x7265706c, 0x69636173, 0x20322031, 0x20333b20, 0x20202020);
        notes.save(1);
        notes.addTag(0, 5);
        notes.writeTags(0);
        String before = Views.world(notes);
        for (int length : new int[] {MIN, -1, 21, 600, 601, MAX}) {
            CHECKS.noIndex("load(" + length + ") of 20 bytes", () -> notes.load(length));
        }
        CHECKS.equal("the error after a wrong length", notes.errorKind() + "@" + notes.errorOffset(), "2@9");
        CHECKS.equal("the input after a wrong length", notes.append(0, 0, 0, 0, 0), 40);
        CHECKS.badArgument("load of an error", () -> notes.load(19));
        CHECKS.noIndex("the input after an error", () -> notes.load(1));
        CHECKS.equal("all after an error", Views.world(notes), before);
        CHECKS.equal("the output after an error", notes.outputByte(1), 'f');
        CHECKS.equal("undo after an error", notes.undo(), 0);
        CHECKS.no("the tag after undo", notes.hasTag(0, 5));
        CHECKS.equal("restore after an error", notes.restore(1), 1);
        CHECKS.badArgument("load(0)", () -> notes.load(0));
        Texts.error(notes, "replicas 2 2 2; add 0 a; send 0; add 1 b; merge 0 2");
        CHECKS.equal("replicas after an error in a late line", notes.replicaCount(), 3);
        CHECKS.equal("messages after an error in a late line", notes.messageCount(), 1);
        Texts.load(notes, "replicas 4 0 0; add 3 n");
        Texts.error(notes, "replicas 2 2 2; add 0 a; send 0; add 1 b; merge 0 2");
        CHECKS.equal("replicas after a load and an error", notes.replicaCount(), 4);
        CHECKS.equal("tags after a load and an error", Texts.tags(notes, 3), "n");
    }

    private static void promise3LoadReadsTheGrammar() {
        CHECKS.equal("blanks", Views.state(Texts.loaded("\n  replicas\n2 1   0 \n;inc 0 0 7\n; add\n\n1 p \n"), 0),
                "0 +7-0 ; 0 +0-0 ; ");
        CHECKS.equal("no blanks at semicolons", Views.state(Texts.loaded("replicas 1 1 1;inc 0 0 1;write 0 0 9;add 0 p"), 0),
                "2 +1-0 p2 =9 ; ");
        CHECKS.equal("leading zeros", Views.state(Texts.loaded("replicas 01 02 00; inc 00 01 09"), 0), "0 +0-0 +9-0 ; ");
        Notes longest = new Notes();
        StringBuilder text = new StringBuilder("replicas 4 4 4");
        while (text.length() + 8 <= 600) {
            text.append(";add 3 a");
        }
        CHECKS.equal("the longest text", Texts.load(longest, text + " \n"), 4);
        CHECKS.equal("the dots of the longest text", longest.tagDot(3, 0, 3), 73);
        Notes notes = new Notes();
        Texts.append(notes, Texts.bytes("replicas 2 0 0; add 0 a; add 0 b"));
        CHECKS.equal("load of a part", notes.load(23), 2);
        CHECKS.equal("tags of a part", Texts.tags(notes, 0), "a");
    }

    private static void promise3LoadRunsEachLine() {
        Notes notes = Texts.loaded(FOUR);
        CHECKS.equal("inc", notes.increments(0, 3, 0), 9);
        CHECKS.equal("dec", notes.decrements(3, 3, 3), 99);
        CHECKS.equal("add by 0", notes.tagDot(0, 0, 0), 1);
        CHECKS.equal("add by 1 replaces the dot of 0", notes.tagDot(1, 0, 0), 0);
        CHECKS.equal("add by 1", notes.tagDot(1, 0, 1), 2);
        CHECKS.no("remove", notes.hasTag(2, 0));
        CHECKS.equal("add of the last tag", Texts.tags(notes, 3), "p");
        CHECKS.equal("write", Texts.register(notes, 2, 3), "5");
        CHECKS.equal("merge is not the other way round", notes.versionEntry(0, 1), 0);
        Notes late = Texts.loaded("replicas 3 1 1; add 0 a; send 0; add 0 b; send 0; deliver 1 1; deliver 0 2;"
                + "send 2; merge 0 0; write 1 0 0");
        CHECKS.equal("deliver of the second message", Texts.tags(late, 1), "ab");
        CHECKS.equal("deliver of the first message", Texts.tags(late, 2), "a");
        CHECKS.equal("sent by the text", late.messageCount(), 3);
        CHECKS.equal("sender of the third message", late.senderOf(2), 2);
        CHECKS.equal("write of 0", Texts.register(late, 1, 0), "0");
    }

    private static void errors(String[][] cases) {
        Notes notes = new Notes();
        for (String[] row : cases) {
            CHECKS.equal("the error of \"" + row[0] + "\"", Texts.error(notes, row[0]), row[1]);
        }
        CHECKS.equal("all after errors", Views.world(notes), Views.world(new Notes()));
    }

    private static void promise4And5SyntaxErrors() {
        errors(new String[][] {{"", "1@0"}, {" \n ", "1@3"}, {";", "1@0"}, {"replica 1 1 1", "1@0"},
            {"replicass 1 1 1", "1@0"}, {"Replicas 1 1 1", "1@0"}, {"  replicas", "1@10"}, {"replicas x", "1@9"},
            {"replicas ;", "1@9"}, {"replicas 1 1", "1@12"}, {"replicas 1 1;", "1@12"}, {"replicas 1 1 1 1", "1@15"},
            {"replicas 1 1 1 add 0 a", "1@15"}, {"replicas 1 1 1;", "1@15"}, {"replicas 1 1 1; \n", "1@17"},
            {"replicas 1 1 1;;", "1@15"}, {"replicas 1 1 1;5", "1@15"}, {"replicas 1 1 1;replicas 1 1 1", "1@15"},
            {"replicas 1 1 1;incr 0 0 1", "1@15"}, {"replicas 1 1 1;in 0 0 1", "1@15"},
            {"replicas 1 1 1;inc 0 0", "1@22"}, {"replicas 1 1 1;inc 0 0;", "1@22"}, {"replicas 1 1 1;inc a 0 1", "1@19"},
            {"replicas 1 1 1;inc 0 0 1 1", "1@25"}, {"replicas 1 1 1;add 0 1", "1@21"}, {"replicas 1 1 1;add 0 q", "1@21"},
            {"replicas 1 1 1;add 0 z", "1@21"}, {"replicas 1 1 1;add 0 ab", "1@21"}, {"replicas 1 1 1;add 0 aa", "1@21"},
            {"replicas 1 1 1;add 0 az", "1@21"}, {"replicas 1 1 1;add 0 a0", "1@22"}, {"replicas 1 1 1;bdd 0 a", "1@15"},
            {"seplicas 1 1 1", "1@0"}, {"replicat 1 1 1", "1@0"},
            {"replicas 1 1 1;add a 0", "1@19"}, {"replicas 1 1 1;add 0 A", "1@21"}, {"replicas 1 1 1;remove 0 q", "1@24"},
            {"replicas 1 1 1;remove 0 7", "1@24"}, {"replicas 1 1 1;send", "1@19"}, {"replicas 1 1 1;send 0 0", "1@22"},
            {"replicas 1 1 1;merge 0", "1@22"}, {"replicas 1 1 1;send 0;deliver 0", "1@31"}});
        // a number with more than 2 digits, also where a shorter one would be in the range
        errors(new String[][] {{"replicas 001 1 1", "1@9"}, {"replicas 1 100 1", "1@11"},
            {"replicas 1 1 1;inc 0 0 100", "1@23"}, {"replicas 1 1 1;inc 0 0 001", "1@23"},
            {"replicas 1 1 1;inc 000 0 1", "1@19"}, {"replicas 1 1 1;inc 99999999999999999999 0 1", "1@19"}});
        // a word or number that directly follows one: kind 1 is smaller than the other kinds
        errors(new String[][] {{"replicas1 1 1", "1@8"}, {"replicas5 1 1", "1@8"}, {"replicas 1a 1 1", "1@10"},
            {"replicas 1 1 1add 0 a", "1@14"}, {"replicas 1 1 1;add0 a", "1@18"}, {"replicas 1 1 1;add9 a", "1@18"},
            {"replicas 1 1 1;add 0a", "1@20"}, {"replicas 1 1 1;remove 0a", "1@23"},
            {"replicas 1 1 1;add 0 a1", "1@22"}, {"replicas 1 1 1;inc 0 0 1x", "1@24"},
            {"replicas 1 1 1;7send 0", "1@15"}});
        // bytes that start no token, also where the text could end
        errors(new String[][] {{"\0replicas 1 1 1", "1@0"}, {"replicas 1 1 1\t", "1@14"}, {"replicas 1 1 1\r", "1@14"},
            {"replicas\t1 1 1", "1@8"}, {"replicas -1 1 1", "1@9"}, {"replicas 1,1 1", "1@10"}, {"replicas 1 1 1 \377", "1@15"},
            {"replicas 1 1 1;add 0 \341", "1@21"}, {"replicas 1 1 1;add 0 `", "1@21"}, {"replicas 1 1 1;add 0 {", "1@21"},
            {"replicas 1 1 1:", "1@14"}, {"replicas 1 1 /", "1@13"}, {"replicas 1 1 1.", "1@14"}});
    }

    private static void promise4And5RangeErrors() {
        errors(new String[][] {{"replicas 0 1 1", "2@9"}, {"replicas 5 1 1", "2@9"}, {"replicas 99 1 1", "2@9"},
            {"replicas 1 5 1", "2@11"}, {"replicas 1 1 5", "2@13"}, {"replicas 1 1 05", "2@13"}, {"replicas 00 1 1", "2@9"}});
        errors(new String[][] {{"replicas 2 1 1;inc 2 0 1", "2@19"}, {"replicas 2 1 1;inc 1 1 1", "2@21"},
            {"replicas 2 0 1;inc 1 0 1", "2@21"}, {"replicas 2 1 1;inc 1 0 0", "2@23"}, {"replicas 2 1 1;inc 1 0 00", "2@23"},
            {"replicas 2 1 1;dec 2 0 1", "2@19"}, {"replicas 2 1 1;dec 1 1 1", "2@21"}, {"replicas 2 1 1;dec 1 0 0", "2@23"},
            {"replicas 2 1 1;add 2 a", "2@19"}, {"replicas 2 1 1;add 0 a;remove 2 a", "2@30"},
            {"replicas 2 1 1;write 2 0 1", "2@21"}, {"replicas 2 1 1;write 1 1 1", "2@23"}, {"replicas 2 1 0;write 1 0 1", "2@23"},
            {"replicas 2 1 1;merge 2 0", "2@21"}, {"replicas 2 1 1;merge 0 2", "2@23"}, {"replicas 2 1 1;send 2", "2@20"},
            {"replicas 2 1 1;deliver 0 0", "2@23"}, {"replicas 2 1 1;send 1;deliver 1 0", "2@30"},
            {"replicas 2 1 1;send 1;deliver 0 2", "2@32"}});
        // the first error is told, not the smallest kind in the text
        errors(new String[][] {{"replicas 5 x", "2@9"}, {"replicas 1 1 1;inc 1", "2@19"}, {"replicas 1 1 1;inc 9x", "2@19"},
            {"replicas 9\t", "2@9"}});
        CHECKS.equal("the greatest amounts and values",
                Views.state(Texts.loaded("replicas 1 1 1;inc 0 0 99;dec 0 0 1;write 0 0 99"), 0), "1 +99-1 =99 ; ");
    }

    private static void promise4And5OtherErrors() {
        errors(new String[][] {{"replicas 2 1 1;remove 0 a", "3@24"}, {"replicas 2 1 1;add 0 a;remove 1 a", "3@32"},
            {"replicas 2 1 1;add 0 a;remove 0 b", "3@32"}, {"replicas 2 1 1;add 0 a;remove 0 a; remove 0 a", "3@44"},
            {"replicas 2 1 1;remove 0 a?", "3@24"}, {"replicas 2 1 1;remove 0 p;;", "3@24"}});
        String six = "replicas 1 1 1;send 0;send 0;send 0;send 0;send 0;send 0";
        errors(new String[][] {{six + ";send 0", "4@57"}, {six + "; send 9", "4@58"}, {six + ";send", "4@57"},
            {six + ";send x", "4@57"}, {six + ";sends 0", "1@57"}, {six + ";deliver 6 0", "2@65"}});
        CHECKS.equal("six messages", Texts.loaded(six + ";deliver 5 0").messageCount(), 6);
    }

    private static void promise4And5ErrorIsKept() {
        Notes notes = new Notes();
        CHECKS.equal("error kind at first", notes.errorKind(), 0);
        CHECKS.equal("error offset at first", notes.errorOffset(), OfflineNotes.NONE);
        CHECKS.equal("an error", Texts.error(notes, "replicas 2 1 1;remove 0 a"), "3@24");
        notes.addTag(0, 0);
        notes.append(0, 0, 0, 0, 0);
        notes.undo();
        CHECKS.equal("the error after other calls", notes.errorKind() + "@" + notes.errorOffset(), "3@24");
        CHECKS.badArgument("load of nothing", () -> notes.load(0));
        CHECKS.equal("the newest error", notes.errorKind() + "@" + notes.errorOffset(), "1@0");
        CHECKS.equal("no error", Texts.error(notes, "replicas 2 1 1"), "loaded 0@-1");
    }

    // ---- promises 6 to 16

    private static void promise6To8Counts() {
        for (int count = 0; count <= 4; count++) {
            if (count > 0) {
                CHECKS.equal("replicas", Texts.loaded("replicas " + count + " 1 2").replicaCount(), count);
            }
            CHECKS.equal("counters", Texts.loaded("replicas 2 " + count + " 1").counterCount(), count);
            CHECKS.equal("registers", Texts.loaded("replicas 2 1 " + count).registerCount(), count);
        }
    }

    private static void promise9VersionEntry() {
        Notes notes = Texts.loaded(FOUR);
        int[][] due = {{2, 0, 0, 0}, {2, 2, 0, 0}, {2, 0, 1, 0}, {0, 0, 0, 1}};
        for (int replica = 0; replica < 4; replica++) {
            for (int other = 0; other < 4; other++) {
                CHECKS.equal("versionEntry(" + replica + ", " + other + ")", notes.versionEntry(replica, other),
                        due[replica][other]);
            }
        }
        throwsBeyond("versionEntry of", 0, 3, replica -> notes.versionEntry(replica, 0));
        throwsBeyond("versionEntry by", 0, 3, other -> notes.versionEntry(0, other));
        Notes two = Texts.loaded("replicas 2 1 1");
        throwsBeyond("versionEntry of one of two", 0, 1, replica -> two.versionEntry(replica, 0));
        throwsBeyond("versionEntry by one of two", 0, 1, other -> two.versionEntry(0, other));
    }

    private static void promise10AreEqual() {
        Notes notes = Texts.loaded("replicas 3 1 1");
        CHECKS.yes("areEqual of empty states", notes.areEqual(0, 1));
        notes.increment(0, 0, 1);
        CHECKS.no("areEqual after increment", notes.areEqual(0, 1));
        CHECKS.no("areEqual the other way", notes.areEqual(1, 0));
        CHECKS.yes("areEqual of one", notes.areEqual(0, 0));
        notes.merge(1, 0);
        CHECKS.yes("areEqual after merge", notes.areEqual(0, 1));
        notes.decrement(1, 0, 1);
        CHECKS.no("areEqual after decrement", notes.areEqual(0, 1));
        notes.merge(0, 1);
        notes.write(0, 0, 5);
        CHECKS.no("areEqual after write", notes.areEqual(0, 1));
        Notes seen = Texts.loaded("replicas 2 1 1; add 0 a; remove 0 a");
        CHECKS.no("areEqual with another version alone", seen.areEqual(0, 1));
        Notes dots = Texts.loaded("replicas 2 1 1; add 0 a; merge 1 0; remove 1 a");
        CHECKS.no("areEqual with another live dot alone", dots.areEqual(0, 1));
        throwsBeyond("areEqual first", 0, 2, first -> one(notes.areEqual(first, 0)));
        throwsBeyond("areEqual second", 0, 2, second -> one(notes.areEqual(0, second)));
    }

    private static void promise11And12CoversAndConcurrent() {
        Notes notes = Texts.loaded("replicas 3 1 1; add 0 a; merge 1 0; inc 1 0 4");
        CHECKS.yes("covers of one", notes.covers(2, 2));
        CHECKS.yes("covers what it merged", notes.covers(1, 0));
        CHECKS.no("covers what it has not", notes.covers(0, 1));
        CHECKS.yes("covers an empty state", notes.covers(0, 2));
        CHECKS.no("the empty one covers", notes.covers(2, 0));
        CHECKS.no("areConcurrent of a covered one", notes.areConcurrent(0, 1));
        CHECKS.no("areConcurrent of a covering one", notes.areConcurrent(1, 0));
        CHECKS.no("areConcurrent of one", notes.areConcurrent(1, 1));
        notes.addTag(2, 3);
        CHECKS.yes("areConcurrent", notes.areConcurrent(2, 1));
        CHECKS.no("covers of a concurrent one", notes.covers(2, 1));
        notes.merge(2, 1);
        notes.removeTag(2, 0);
        CHECKS.yes("a removal is covered by who made it", notes.covers(2, 1));
        CHECKS.no("a removal is not covered by others", notes.covers(1, 2));
        CHECKS.no("areConcurrent after a removal", notes.areConcurrent(1, 2));
        notes.merge(1, 2);
        CHECKS.yes("equal states cover one another", notes.covers(1, 2) && notes.covers(2, 1));
        CHECKS.no("areConcurrent of equal states", notes.areConcurrent(1, 2));
        Notes removal = Texts.loaded("replicas 2 0 0; add 0 a; merge 1 0; remove 1 a");
        CHECKS.no("a removal alone is news", removal.covers(0, 1));
        CHECKS.yes("the dot that is removed is no news", removal.covers(1, 0));
        String before = Views.world(notes);
        throwsBeyond("covers first", 0, 2, first -> one(notes.covers(first, 0)));
        throwsBeyond("covers second", 0, 2, second -> one(notes.covers(0, second)));
        throwsBeyond("areConcurrent first", 0, 2, first -> one(notes.areConcurrent(first, 0)));
        throwsBeyond("areConcurrent second", 0, 2, second -> one(notes.areConcurrent(0, second)));
        CHECKS.equal("nothing changes by asking", Views.world(notes), before);
    }

    private static void promise13DifferentStates() {
        Notes notes = Texts.loaded("replicas 4 1 1");
        CHECKS.equal("differentStates of empty ones", notes.differentStates(), 1);
        notes.addTag(1, 0);
        CHECKS.equal("differentStates of two", notes.differentStates(), 2);
        notes.merge(3, 1);
        CHECKS.equal("differentStates of two pairs", notes.differentStates(), 2);
        notes.addTag(2, 0);
        CHECKS.equal("differentStates of three", notes.differentStates(), 3);
        notes.removeTag(3, 0);
        CHECKS.equal("differentStates of four", notes.differentStates(), 4);
        CHECKS.equal("differentStates of one replica", Texts.loaded("replicas 1 0 0").differentStates(), 1);
    }

    private static void promise14CounterValue() {
        Notes notes = Texts.loaded("replicas 3 4 0; inc 0 3 9; dec 1 3 99; inc 1 3 20; dec 0 3 1; merge 2 0");
        CHECKS.equal("counterValue of 0", notes.counterValue(0, 3), 8);
        CHECKS.equal("counterValue below 0", notes.counterValue(1, 3), -79);
        CHECKS.equal("counterValue merged", notes.counterValue(2, 3), 8);
        notes.merge(2, 1);
        CHECKS.equal("counterValue of all", notes.counterValue(2, 3), -71);
        CHECKS.equal("counterValue of another counter", notes.counterValue(2, 2), 0);
        throwsBeyond("counterValue of a replica", 0, 2, replica -> notes.counterValue(replica, 0));
        throwsBeyond("counterValue of a counter", 0, 3, counter -> notes.counterValue(0, counter));
        Notes none = Texts.loaded("replicas 3 0 1");
        CHECKS.noIndex("counterValue without counters", () -> none.counterValue(0, 0));
    }

    private static void promise15And16Sums() {
        Notes notes = Texts.loaded(
                "replicas 3 2 0; inc 0 0 1; inc 0 0 2; dec 0 0 4; inc 0 1 8; merge 1 0; inc 1 0 16; dec 1 1 32");
        int[][][] ups = {{{3, 0, 0}, {8, 0, 0}}, {{3, 16, 0}, {8, 0, 0}}, {{0, 0, 0}, {0, 0, 0}}};
        int[][][] downs = {{{4, 0, 0}, {0, 0, 0}}, {{4, 0, 0}, {0, 32, 0}}, {{0, 0, 0}, {0, 0, 0}}};
        for (int replica = 0; replica < 3; replica++) {
            for (int counter = 0; counter < 2; counter++) {
                for (int by = 0; by < 3; by++) {
                    String where = "(" + replica + ", " + counter + ", " + by + ")";
                    CHECKS.equal("increments" + where, notes.increments(replica, counter, by), ups[replica][counter][by]);
                    CHECKS.equal("decrements" + where, notes.decrements(replica, counter, by),
                            downs[replica][counter][by]);
                }
            }
        }
        throwsBeyond("increments of a replica", 0, 2, replica -> notes.increments(replica, 0, 0));
        throwsBeyond("increments of a counter", 0, 1, counter -> notes.increments(0, counter, 0));
        throwsBeyond("increments by", 0, 2, by -> notes.increments(0, 0, by));
        throwsBeyond("decrements of a replica", 0, 2, replica -> notes.decrements(replica, 0, 0));
        throwsBeyond("decrements of a counter", 0, 1, counter -> notes.decrements(0, counter, 0));
        throwsBeyond("decrements by", 0, 2, by -> notes.decrements(0, 0, by));
    }

    // ---- promises 17 to 25

    private static void promise17To19Dots() {
        Notes notes = Texts.loaded("replicas 4 0 0; add 0 p; add 0 a; add 1 a; add 2 b; add 2 a; add 3 a; merge 0 1");
        CHECKS.yes("hasTag", notes.hasTag(0, 0));
        CHECKS.yes("hasTag of the last tag", notes.hasTag(0, 15));
        CHECKS.no("hasTag of another tag", notes.hasTag(0, 1));
        CHECKS.no("hasTag of another replica", notes.hasTag(1, 15));
        CHECKS.equal("liveDots of two", notes.liveDots(0, 0), 2);
        CHECKS.equal("liveDots of one", notes.liveDots(0, 15), 1);
        CHECKS.equal("liveDots of none", notes.liveDots(0, 7), 0);
        CHECKS.equal("tagDot by 0", notes.tagDot(0, 0, 0), 2);
        CHECKS.equal("tagDot by 1", notes.tagDot(0, 0, 1), 1);
        CHECKS.equal("tagDot by none", notes.tagDot(0, 0, 2), 0);
        notes.merge(0, 2);
        CHECKS.equal("liveDots of three", notes.liveDots(0, 0), 3);
        CHECKS.equal("tagDot by 2", notes.tagDot(0, 0, 2), 2);
        notes.merge(0, 3);
        CHECKS.equal("liveDots of four", notes.liveDots(0, 0), 4);
        CHECKS.equal("tagDot by 3", notes.tagDot(0, 0, 3), 1);
        notes.removeTag(0, 0);
        CHECKS.no("hasTag after a removal", notes.hasTag(0, 0));
        CHECKS.equal("liveDots after a removal", notes.liveDots(0, 0), 0);
        CHECKS.equal("tagDot after a removal", notes.tagDot(0, 0, 3), 0);
        throwsBeyond("hasTag of a replica", 0, 3, replica -> one(notes.hasTag(replica, 0)));
        throwsBeyond("hasTag of a tag", 0, 15, tag -> one(notes.hasTag(0, tag)));
        throwsBeyond("liveDots of a replica", 0, 3, replica -> notes.liveDots(replica, 0));
        throwsBeyond("liveDots of a tag", 0, 15, tag -> notes.liveDots(0, tag));
        throwsBeyond("tagDot of a replica", 0, 3, replica -> notes.tagDot(replica, 0, 0));
        throwsBeyond("tagDot of a tag", 0, 15, tag -> notes.tagDot(0, tag, 0));
        throwsBeyond("tagDot by", 0, 3, by -> notes.tagDot(0, 0, by));
        Notes few = Texts.loaded("replicas 1 0 0");
        throwsBeyond("tagDot by the only one", 0, 0, by -> few.tagDot(0, 0, by));
    }

    private static void promise20And21PresentTags() {
        Notes notes = Texts.loaded("replicas 2 0 0; add 0 p; add 0 c; add 0 f; add 1 c; merge 0 1");
        CHECKS.equal("tagCount", notes.tagCount(0), 3);
        CHECKS.equal("tagCount of another replica", notes.tagCount(1), 1);
        CHECKS.equal("tagAt 0", notes.tagAt(0, 0), 2);
        CHECKS.equal("tagAt 1", notes.tagAt(0, 1), 5);
        CHECKS.equal("tagAt 2", notes.tagAt(0, 2), 15);
        CHECKS.equal("tagAt of another replica", notes.tagAt(1, 0), 2);
        throwsBeyond("tagAt index", 0, 2, index -> notes.tagAt(0, index));
        throwsBeyond("tagAt of a replica", 0, 1, replica -> notes.tagAt(replica, 0));
        throwsBeyond("tagCount of a replica", 0, 1, replica -> notes.tagCount(replica));
        notes.removeTag(0, 5);
        CHECKS.equal("tagCount after a removal", notes.tagCount(0), 2);
        CHECKS.equal("tagAt after a removal", notes.tagAt(0, 1), 15);
        Notes all = Texts.loaded("replicas 1 0 0");
        CHECKS.equal("tagCount of none", all.tagCount(0), 0);
        CHECKS.noIndex("tagAt of none", () -> all.tagAt(0, 0));
        Notes written = Texts.loaded("replicas 2 0 4; write 0 0 9; write 0 3 9; add 0 p; merge 1 0; remove 1 p");
        CHECKS.noIndex("tagAt finds no register", () -> written.tagAt(0, 1));
        CHECKS.noIndex("tagAt of none beside registers", () -> written.tagAt(1, 0));
        for (int tag = 15; tag >= 0; tag--) {
            all.addTag(0, tag);
        }
        CHECKS.equal("tagCount of all", all.tagCount(0), 16);
        for (int tag = 0; tag < 16; tag++) {
            CHECKS.equal("tagAt of all", all.tagAt(0, tag), tag);
        }
    }

    private static void promise22To24Entries() {
        Notes notes = Texts.loaded("replicas 4 0 4; write 0 3 0; write 1 3 50; write 2 3 20; write 3 3 50; write 0 2 1");
        CHECKS.equal("entryCount of one", notes.entryCount(0, 3), 1);
        CHECKS.equal("entryCount of none", notes.entryCount(0, 0), 0);
        CHECKS.equal("entryValue of 0", notes.entryValue(0, 3, 0), 0);
        CHECKS.equal("entryValue of none", notes.entryValue(0, 3, 1), OfflineNotes.NONE);
        CHECKS.equal("greatestValue of 0", notes.greatestValue(0, 3), 0);
        CHECKS.equal("greatestValue of none", notes.greatestValue(0, 0), OfflineNotes.NONE);
        notes.merge(0, 1);
        CHECKS.equal("greatestValue of two", notes.greatestValue(0, 3), 50);
        notes.merge(0, 2);
        CHECKS.equal("entryCount of three", notes.entryCount(0, 3), 3);
        CHECKS.equal("greatestValue in the middle", notes.greatestValue(0, 3), 50);
        notes.merge(0, 3);
        CHECKS.equal("entryCount of four", notes.entryCount(0, 3), 4);
        int[] due = {0, 50, 20, 50};
        for (int by = 0; by < 4; by++) {
            CHECKS.equal("entryValue by " + by, notes.entryValue(0, 3, by), due[by]);
        }
        CHECKS.equal("entryValue of another register", notes.entryValue(0, 2, 0), 1);
        CHECKS.equal("entryValue of another replica", notes.entryValue(1, 3, 0), OfflineNotes.NONE);
        notes.write(0, 3, 7);
        CHECKS.equal("greatestValue after a write", notes.greatestValue(0, 3), 7);
        CHECKS.equal("entryValue after a write", notes.entryValue(0, 3, 1), OfflineNotes.NONE);
        Notes next = Texts.loaded("replicas 4 0 4; write 0 0 3; write 0 1 4; write 0 3 5; add 0 p; write 0 2 6");
        for (int register = 0; register < 4; register++) {
            CHECKS.equal("greatestValue beside others", next.greatestValue(0, register), new int[] {3, 4, 6, 5}[register]);
        }
        throwsBeyond("entryCount of a replica", 0, 3, replica -> notes.entryCount(replica, 0));
        throwsBeyond("entryCount of a register", 0, 3, register -> notes.entryCount(0, register));
        throwsBeyond("entryValue of a replica", 0, 3, replica -> notes.entryValue(replica, 0, 0));
        throwsBeyond("entryValue of a register", 0, 3, register -> notes.entryValue(0, register, 0));
        throwsBeyond("entryValue by", 0, 3, by -> notes.entryValue(0, 0, by));
        throwsBeyond("greatestValue of a replica", 0, 3, replica -> notes.greatestValue(replica, 0));
        throwsBeyond("greatestValue of a register", 0, 3, register -> notes.greatestValue(0, register));
        Notes none = Texts.loaded("replicas 2 4 0");
        CHECKS.noIndex("entryCount without registers", () -> none.entryCount(0, 0));
        CHECKS.noIndex("entryValue without registers", () -> none.entryValue(0, 0, 0));
        CHECKS.noIndex("greatestValue without registers", () -> none.greatestValue(0, 0));
    }

    private static void promise25Conflicts() {
        Notes notes = Texts.loaded(
                "replicas 2 0 4; write 0 0 1; write 1 0 1; write 0 3 2; write 1 3 3; write 0 1 4; write 1 2 5; add 0 a; add 1 a");
        CHECKS.equal("conflicts before merging", notes.conflicts(0), 0);
        notes.merge(0, 1);
        CHECKS.equal("conflicts", notes.conflicts(0), 2);
        CHECKS.equal("conflicts of another replica", notes.conflicts(1), 0);
        notes.write(0, 0, 1);
        CHECKS.equal("conflicts after a write", notes.conflicts(0), 1);
        throwsBeyond("conflicts", 0, 1, replica -> notes.conflicts(replica));
    }

    // ---- promises 26 to 38

    private static void promise26UnseenDots() {
        Notes notes = Texts.loaded(FOUR);
        CHECKS.equal("unseenDots to itself", notes.unseenDots(1, 1), 0);
        CHECKS.equal("unseenDots to a replica that knows more", notes.unseenDots(0, 1), 0);
        CHECKS.equal("unseenDots to a replica that knows less", notes.unseenDots(1, 0), 2);
        CHECKS.equal("unseenDots of concurrent ones", notes.unseenDots(1, 2), 2);
        CHECKS.equal("unseenDots the other way", notes.unseenDots(2, 1), 1);
        CHECKS.equal("unseenDots of many replicas", notes.unseenDots(1, 3), 4);
        Notes dead = Texts.loaded("replicas 2 0 1; add 0 a; remove 0 a; write 0 0 1; write 0 0 2");
        CHECKS.equal("unseenDots that are not live", dead.unseenDots(0, 1), 3);
        Notes counted = Texts.loaded("replicas 4 1 0; inc 0 0 7; add 0 a");
        CHECKS.equal("unseenDots are no sums", counted.unseenDots(0, 1), 1);
        throwsBeyond("unseenDots from", 0, 3, from -> notes.unseenDots(from, 0));
        throwsBeyond("unseenDots to", 0, 3, to -> notes.unseenDots(0, to));
    }

    private static void promise27DeltaSize() {
        Notes notes = new Notes();
        CHECKS.equal("deltaSize from 0 to 1", notes.deltaSize(0, 1), 3);
        CHECKS.equal("deltaSize from 1 to 0", notes.deltaSize(1, 0), 3);
        CHECKS.equal("deltaSize to itself", notes.deltaSize(0, 0), 0);
        Notes sums = Texts.loaded("replicas 2 4 1; inc 0 0 1; inc 0 3 2; dec 0 3 1; dec 1 1 1");
        CHECKS.equal("deltaSize of sums", sums.deltaSize(0, 1), 3);
        CHECKS.equal("deltaSize of one sum", sums.deltaSize(1, 0), 1);
        Notes dots = Texts.loaded("replicas 3 0 4; add 0 a; add 0 p; write 0 0 1; write 0 3 2; add 1 a; merge 1 0");
        CHECKS.equal("deltaSize of dots", dots.deltaSize(0, 2), 5);
        CHECKS.equal("deltaSize of two replicas' dots", dots.deltaSize(1, 2), 7);
        CHECKS.equal("deltaSize of one replica's dots", dots.deltaSize(1, 0), 2);
        CHECKS.equal("deltaSize to who knows more", dots.deltaSize(0, 1), 0);
        dots.removeTag(1, 0);
        CHECKS.equal("deltaSize has no removals", dots.deltaSize(1, 0), 1);
        CHECKS.equal("deltaSize has no seen dots", dots.deltaSize(0, 1), 0);
        throwsBeyond("deltaSize from", 0, 2, from -> dots.deltaSize(from, 0));
        throwsBeyond("deltaSize to", 0, 2, to -> dots.deltaSize(0, to));
    }

    private static void promise28And29TagsGainedAndLost() {
        Notes notes = Texts.loaded("replicas 3 0 0; add 0 a; add 0 b; add 0 c; merge 1 0; remove 1 a; remove 1 b;"
                + " add 1 d; add 0 b; add 1 c; add 1 p");
        CHECKS.equal("tagsGained", notes.tagsGained(0, 1), 2);
        CHECKS.equal("tagsLost of a removed one", notes.tagsLost(0, 1), 1);
        CHECKS.equal("tagsGained of one added again", notes.tagsGained(1, 0), 1);
        CHECKS.equal("tagsLost of none", notes.tagsLost(1, 0), 0);
        CHECKS.equal("tagsGained by an empty replica", notes.tagsGained(2, 0), 3);
        CHECKS.equal("tagsGained from an empty replica", notes.tagsGained(0, 2), 0);
        CHECKS.equal("tagsLost to an empty replica", notes.tagsLost(0, 2), 0);
        CHECKS.equal("tagsGained from itself", notes.tagsGained(0, 0) + notes.tagsLost(0, 0), 0);
        CHECKS.equal("nothing is gained by asking", Texts.tags(notes, 0), "abc");
        notes.merge(0, 1);
        CHECKS.equal("tags after the merge", Texts.tags(notes, 0), "bcdp");
        Notes written = Texts.loaded("replicas 2 0 1; write 0 0 9; add 0 b; add 1 p");
        CHECKS.equal("tagsGained has no registers", written.tagsGained(1, 0), 1);
        CHECKS.equal("tagsLost has no registers", written.tagsLost(0, 1), 0);
        throwsBeyond("tagsGained target", 0, 2, target -> notes.tagsGained(target, 0));
        throwsBeyond("tagsGained source", 0, 2, source -> notes.tagsGained(0, source));
        throwsBeyond("tagsLost target", 0, 2, target -> notes.tagsLost(target, 0));
        throwsBeyond("tagsLost source", 0, 2, source -> notes.tagsLost(0, source));
    }

    private static void promise30To32AllMerged() {
        Notes notes = Texts.loaded(FOUR + "; dec 2 0 7; merge 3 2; add 0 d");
        String before = Views.world(notes);
        CHECKS.equal("mergedValue", notes.mergedValue(3), -90);
        CHECKS.equal("mergedValue of one replica", notes.mergedValue(0), -7);
        CHECKS.equal("mergedValue of none", notes.mergedValue(1), 0);
        CHECKS.equal("mergedTags", notes.mergedTags(), 3);
        CHECKS.equal("mergedConflicts", notes.mergedConflicts(), 1);
        CHECKS.equal("nothing is merged by asking", Views.world(notes), before);
        throwsBeyond("mergedValue", 0, 3, counter -> notes.mergedValue(counter));
        Notes removed = Texts.loaded("replicas 3 0 2; add 0 a; write 0 0 1; write 0 1 1; merge 2 0; remove 2 a;"
                + " write 2 0 5; write 1 1 1");
        CHECKS.equal("mergedTags after a removal", removed.mergedTags(), 0);
        removed.addTag(1, 4);
        CHECKS.equal("mergedTags after an addition", removed.mergedTags(), 1);
        removed.undo();
        CHECKS.equal("mergedTags after undo", removed.mergedTags(), 0);
        CHECKS.equal("mergedConflicts after a later write", removed.mergedConflicts(), 1);
        CHECKS.noIndex("mergedValue without counters", () -> removed.mergedValue(0));
        Notes alone = Texts.loaded("replicas 1 1 1; add 0 a; add 0 b; inc 0 0 3; write 0 0 1");
        CHECKS.equal("merged of one replica", alone.mergedTags() + alone.mergedValue(0) + alone.mergedConflicts(), 5);
    }

    private static void promise33ConvergenceErrors() {
        Notes notes = Texts.loaded(FOUR);
        CHECKS.equal("convergenceErrors", notes.convergenceErrors(), 0);
        CHECKS.equal("convergenceErrors at first", new Notes().convergenceErrors(), 0);
        notes.addTag(0, 0);
        notes.write(3, 3, 1);
        CHECKS.equal("convergenceErrors later", notes.convergenceErrors(), 0);
        notes.undo();
        notes.undo();
        CHECKS.equal("convergenceErrors after undo", notes.convergenceErrors(), 0);
        CHECKS.equal("convergenceErrors of one", Texts.loaded("replicas 1 0 0; add 0 a").convergenceErrors(), 0);
    }

    private static void promise34MeanTags() {
        CHECKS.equalDouble("meanTags at first", new Notes().meanTags(), 1.0);
        CHECKS.equalDouble("meanTags of none", Texts.loaded("replicas 4 0 0").meanTags(), 0.0);
        CHECKS.equalDouble("meanTags of thirds", Texts.loaded("replicas 3 0 0; add 0 a; add 2 b").meanTags(), 2.0 / 3.0);
        Notes notes = Texts.loaded("replicas 4 0 0; add 0 a; add 0 b; add 1 a; merge 3 0; merge 3 1; remove 0 b");
        CHECKS.equalDouble("meanTags of quarters", notes.meanTags(), 1.0);
        notes.addTag(2, 15);
        CHECKS.equalDouble("meanTags of five quarters", notes.meanTags(), 1.25);
    }

    private static void promise35CompleteShare() {
        CHECKS.equalDouble("completeShare at first", new Notes().completeShare(), 0.0f);
        CHECKS.equalDouble("completeShare of empty ones", Texts.loaded("replicas 3 0 0").completeShare(), 1.0f);
        Notes notes = Texts.loaded("replicas 3 1 1; add 0 a; merge 2 0; inc 1 0 1");
        CHECKS.equalDouble("completeShare of none", notes.completeShare(), 0.0f);
        notes.merge(2, 1);
        CHECKS.equalDouble("completeShare of a third", notes.completeShare(), 1.0f / 3.0f);
        notes.merge(0, 2);
        CHECKS.equalDouble("completeShare of two thirds", notes.completeShare(), 2.0f / 3.0f);
        notes.removeTag(2, 0);
        CHECKS.equalDouble("completeShare after a removal", notes.completeShare(), 1.0f / 3.0f);
        notes.mergeAll();
        CHECKS.equalDouble("completeShare of all", notes.completeShare(), 1.0f);
        CHECKS.equalDouble("completeShare of the first of four",
                Texts.loaded("replicas 4 0 0; add 0 a").completeShare(), 0.25f);
        CHECKS.equalDouble("completeShare of the last of four",
                Texts.loaded("replicas 4 0 0; add 3 a").completeShare(), 0.25f);
        CHECKS.equalDouble("completeShare of all four", Texts.loaded("replicas 4 0 0").completeShare(), 1.0f);
    }

    private static void promise36To38Messages() {
        Notes notes = Texts.loaded("replicas 3 1 1; add 0 a; send 0; merge 1 0; remove 1 a; send 1; inc 2 0 1; send 2");
        CHECKS.equal("messageCount", notes.messageCount(), 3);
        for (int message = 0; message < 3; message++) {
            CHECKS.equal("senderOf(" + message + ")", notes.senderOf(message), message);
        }
        CHECKS.no("isNews to the sender", notes.isNews(0, 0));
        CHECKS.no("isNews to who merged it", notes.isNews(0, 1));
        CHECKS.yes("isNews to another", notes.isNews(0, 2));
        CHECKS.yes("isNews of a removal", notes.isNews(1, 0));
        CHECKS.yes("isNews of a counter", notes.isNews(2, 1));
        notes.addTag(0, 1);
        CHECKS.yes("a message stays as it was sent", notes.isNews(0, 2) && !notes.isNews(0, 0));
        throwsBeyond("senderOf", 0, 2, message -> notes.senderOf(message));
        throwsBeyond("isNews of a message", 0, 2, message -> one(notes.isNews(message, 0)));
        throwsBeyond("isNews to a replica", 0, 2, replica -> one(notes.isNews(0, replica)));
        Notes none = Texts.loaded("replicas 3 1 1");
        CHECKS.equal("messageCount of none", none.messageCount(), 0);
        CHECKS.noIndex("senderOf without messages", () -> none.senderOf(0));
        CHECKS.noIndex("isNews without messages", () -> none.isNews(0, 0));
    }

    // ---- promises 39 to 49

    private static void promise39And40ChangeACounter() {
        Notes notes = Texts.loaded("replicas 2 4 1; inc 1 3 10; merge 0 1");
        CHECKS.equal("increment by 1", notes.increment(0, 3, 1), 11);
        CHECKS.equal("increment by 99", notes.increment(0, 3, 99), 110);
        CHECKS.equal("decrement by 99", notes.decrement(1, 3, 99), -89);
        CHECKS.equal("decrement by 1", notes.decrement(0, 3, 1), 109);
        CHECKS.equal("increments by who called", notes.increments(0, 3, 0), 100);
        CHECKS.equal("decrements by who called", notes.decrements(0, 3, 0), 1);
        CHECKS.equal("decrements by another who called", notes.decrements(1, 3, 1), 99);
        CHECKS.equal("decrements that are not known", notes.decrements(0, 3, 1) + notes.decrements(1, 3, 0), 0);
        CHECKS.equal("the version after counting", notes.versionEntry(0, 0), 0);
        CHECKS.equal("another counter", notes.counterValue(0, 0), 0);
        String before = Views.world(notes);
        for (int amount : new int[] {MIN, -1, 0, 100, MAX}) {
            CHECKS.badArgument("increment by " + amount, () -> notes.increment(0, 0, amount));
            CHECKS.badArgument("decrement by " + amount, () -> notes.decrement(0, 0, amount));
            CHECKS.noIndex("increment with two errors", () -> notes.increment(2, 0, amount));
            CHECKS.noIndex("decrement with two errors", () -> notes.decrement(0, 4, amount));
        }
        for (int wrong : new int[] {MIN, -1, 4, MAX}) {
            CHECKS.noIndex("increment of replica " + wrong, () -> notes.increment(wrong, 0, 1));
            CHECKS.noIndex("increment of counter " + wrong, () -> notes.increment(0, wrong, 1));
            CHECKS.noIndex("decrement of replica " + wrong, () -> notes.decrement(wrong, 0, 1));
            CHECKS.noIndex("decrement of counter " + wrong, () -> notes.decrement(0, wrong, 1));
        }
        CHECKS.noIndex("increment of replica 2", () -> notes.increment(2, 0, 1));
        CHECKS.noIndex("decrement of replica 2", () -> notes.decrement(2, 0, 1));
        CHECKS.equal("wrong counting changes nothing", Views.world(notes), before);
        CHECKS.equal("wrong counting is not recorded", notes.undo(), 3);
    }

    private static void promise41AddTag() {
        Notes notes = Texts.loaded("replicas 3 1 1; add 0 a; add 1 a; merge 0 1");
        CHECKS.equal("addTag of a present tag", notes.addTag(0, 0), 2);
        CHECKS.equal("its only live dot", notes.liveDots(0, 0), 1);
        CHECKS.equal("its new dot", notes.tagDot(0, 0, 0), 2);
        CHECKS.equal("the version", notes.versionEntry(0, 0), 2);
        CHECKS.equal("addTag of the last tag", notes.addTag(0, 15), 3);
        CHECKS.equal("addTag by another replica", notes.addTag(2, 15), 1);
        CHECKS.equal("addTag after others", notes.addTag(1, 4), 2);
        notes.write(1, 0, 4);
        CHECKS.equal("addTag after a write", notes.addTag(1, 5), 4);
        CHECKS.equal("tags by then", Texts.tags(notes, 0) + Texts.tags(notes, 1) + Texts.tags(notes, 2), "apaefp");
        for (int wrong : new int[] {MIN, -1, 3, MAX}) {
            CHECKS.noIndex("addTag of replica " + wrong, () -> notes.addTag(wrong, 0));
        }
        for (int wrong : new int[] {MIN, -1, 16, MAX}) {
            CHECKS.noIndex("addTag of tag " + wrong, () -> notes.addTag(0, wrong));
        }
        CHECKS.equal("a wrong addTag is not recorded", notes.undo(), 5);
    }

    private static void promise42RemoveTag() {
        Notes notes = Texts.loaded("replicas 3 1 1; add 0 a; add 1 a; add 2 a; merge 0 1; merge 0 2; add 0 p; add 1 b");
        CHECKS.equal("removeTag of three dots", notes.removeTag(0, 0), 3);
        CHECKS.equal("the tags after it", Texts.tags(notes, 0), "p");
        CHECKS.equal("the version after it", notes.versionEntry(0, 0), 2);
        CHECKS.yes("another replica after it", notes.hasTag(1, 0));
        CHECKS.badState("removeTag again", () -> notes.removeTag(0, 0));
        CHECKS.equal("removeTag of one dot", notes.removeTag(0, 15), 1);
        CHECKS.badState("removeTag of a tag of another replica", () -> notes.removeTag(0, 1));
        for (int wrong : new int[] {MIN, -1, 3, MAX}) {
            CHECKS.noIndex("removeTag of replica " + wrong, () -> notes.removeTag(wrong, 0));
        }
        for (int wrong : new int[] {MIN, -1, 16, MAX}) {
            CHECKS.noIndex("removeTag of tag " + wrong, () -> notes.removeTag(0, wrong));
        }
        CHECKS.equal("a wrong removeTag is not recorded", notes.undo(), 1);
    }

    private static void promise43Write() {
        Notes notes = Texts.loaded("replicas 3 1 4; write 0 3 1; write 1 3 2; write 2 3 3; merge 0 1; merge 0 2");
        CHECKS.equal("write over three entries", notes.write(0, 3, 99), 3);
        CHECKS.equal("the entry after it", Texts.register(notes, 0, 3), "99");
        CHECKS.equal("the version after it", notes.versionEntry(0, 0), 2);
        CHECKS.equal("write over one entry", notes.write(0, 3, 0), 1);
        CHECKS.equal("write over none", notes.write(0, 0, 5), 0);
        CHECKS.equal("the version after three", notes.versionEntry(0, 0), 4);
        CHECKS.equal("another register", Texts.register(notes, 0, 3), "0");
        CHECKS.equal("another replica", Texts.register(notes, 1, 3), "2");
        for (int value : new int[] {MIN, -1, 100, MAX}) {
            CHECKS.badArgument("write of " + value, () -> notes.write(0, 0, value));
            CHECKS.noIndex("write with two errors", () -> notes.write(3, 0, value));
            CHECKS.noIndex("write with two errors of a register", () -> notes.write(0, 4, value));
        }
        for (int wrong : new int[] {MIN, -1, 4, MAX}) {
            CHECKS.noIndex("write of replica " + wrong, () -> notes.write(wrong, 0, 1));
            CHECKS.noIndex("write of register " + wrong, () -> notes.write(0, wrong, 1));
        }
        CHECKS.noIndex("write of replica 3", () -> notes.write(3, 0, 1));
        CHECKS.equal("a wrong write is not recorded", notes.undo(), 2);
        Notes none = Texts.loaded("replicas 1 1 0");
        CHECKS.noIndex("write without registers", () -> none.write(0, 0, 1));
    }

    private static void promise44Merge() {
        Notes notes = new Notes();
        String source = Views.state(notes, 0);
        CHECKS.yes("merge of news", notes.merge(1, 0));
        CHECKS.equal("the source of a merge", Views.state(notes, 0), source);
        CHECKS.equal("the target of a merge", Views.state(notes, 1),
                "3 +5-0 +0-0 a2 =7 ; 1 +0-2 +0-0 b1 =-1 ; 0 +0-0 +0-0 =-1 ; ");
        CHECKS.no("merge again", notes.merge(1, 0));
        CHECKS.no("merge of itself", notes.merge(1, 1));
        CHECKS.equal("merges are recorded", notes.undo(), 2);
        throwsBeyond("merge target", 0, 2, target -> one(notes.merge(target, 0)));
        throwsBeyond("merge source", 0, 2, from -> one(notes.merge(0, from)));
        CHECKS.equal("wrong merges are not recorded", notes.undo(), 7);
    }

    private static void promise44MergeRules() {
        Notes dots = Texts.loaded("replicas 3 0 1; add 0 a; merge 1 0; merge 2 0; remove 1 a; add 2 a");
        dots.merge(0, 1);
        CHECKS.no("a dot that the source has seen and removed", dots.hasTag(0, 0));
        CHECKS.yes("a merge of a later dot", dots.merge(0, 2));
        CHECKS.equal("a dot that the target has not seen", dots.tagDot(0, 0, 2), 1);
        CHECKS.equal("the dot that it replaced", dots.tagDot(0, 0, 0), 0);
        CHECKS.no("a merge of the removal of an older dot", dots.merge(2, 1));
        CHECKS.yes("the dot that the source has not seen", dots.hasTag(2, 0));
        Notes again = Texts.loaded("replicas 2 0 0; add 0 a; merge 1 0; remove 0 a; add 0 a");
        again.merge(1, 0);
        CHECKS.equal("a newer dot of the same replica", again.tagDot(1, 0, 0), 2);
        Notes old = Texts.loaded("replicas 2 0 0; add 0 a; merge 1 0; add 0 b; remove 0 a");
        CHECKS.no("a merge of an older state", old.merge(0, 1));
        CHECKS.equal("tags after it", Texts.tags(old, 0), "b");
        Notes values = Texts.loaded("replicas 3 0 1; write 0 0 10; merge 1 0; merge 2 0; write 1 0 11; write 2 0 12");
        values.merge(1, 2);
        CHECKS.equal("concurrent values", Texts.register(values, 1, 0), "11|12");
        values.merge(0, 1);
        CHECKS.equal("the value that they replaced", Texts.register(values, 0, 0), "11|12");
        values.write(0, 0, 13);
        CHECKS.no("a merge of replaced values", values.merge(0, 2));
        values.merge(2, 0);
        CHECKS.equal("the value that replaced them", Texts.register(values, 2, 0), "13");
        Notes sums = Texts.loaded("replicas 2 1 0; inc 0 0 5; dec 0 0 2; merge 1 0; inc 0 0 5; inc 1 0 1; dec 1 0 9");
        sums.merge(1, 0);
        CHECKS.equal("the greater sums", Views.state(sums, 1), "0 +10-2 ; 0 +1-9 ; ");
        Notes version = Texts.loaded("replicas 2 0 0; add 0 a; add 0 b; remove 0 b; merge 1 0; add 1 c; merge 0 1");
        CHECKS.equal("the greater entries", Views.state(version, 0), "2 a1 ; 1 c1 ; ");
    }

    private static void promise45MergeAll() {
        Notes notes = Texts.loaded(FOUR);
        CHECKS.equal("mergeAll of four", notes.mergeAll(), 4);
        CHECKS.equal("states after it", notes.differentStates(), 1);
        CHECKS.equal("a state after it", Views.state(notes, 2), "2 +0-0 +0-0 +0-0 +9-0 =-1 =-1 =-1 =-1 ; "
                + "2 +0-0 +0-0 +0-0 +0-0 a2 =-1 =-1 =-1 =20 ; 1 +0-0 +0-0 +0-0 +0-0 =-1 =-1 =-1 =5 ; "
                + "1 +0-0 +0-0 +0-0 +0-99 p1 =-1 =-1 =-1 =-1 ; ");
        CHECKS.equal("mergeAll again", notes.mergeAll(), 0);
        notes.addTag(2, 0);
        CHECKS.equal("mergeAll of one replica's news", notes.mergeAll(), 3);
        CHECKS.equal("mergeAll is recorded", notes.undo(), 3);
        CHECKS.equal("states after undo", notes.differentStates(), 2);
        CHECKS.equal("mergeAll of one", Texts.loaded("replicas 1 0 0; add 0 a").mergeAll(), 0);
    }

    private static void promise46Send() {
        Notes notes = Texts.loaded("replicas 3 0 0; add 0 a");
        for (int message = 0; message < 6; message++) {
            CHECKS.equal("send", notes.send(message % 3), message);
        }
        CHECKS.badState("send with 6 messages", () -> notes.send(0));
        for (int wrong : new int[] {MIN, -1, 3, MAX}) {
            CHECKS.noIndex("send of replica " + wrong + " with 6 messages", () -> notes.send(wrong));
        }
        CHECKS.equal("senders", notes.senderOf(2) * 10 + notes.senderOf(4), 21);
        notes.addTag(0, 1);
        notes.deliver(0, 1);
        CHECKS.equal("a message is a copy", Texts.tags(notes, 1), "a");
        CHECKS.equal("send is recorded", notes.undo(), 7);
        notes.drop(0);
        CHECKS.noIndex("send of no replica", () -> notes.send(3));
        CHECKS.equal("send after drop", notes.send(2), 5);
    }

    private static void promise47Deliver() {
        Notes notes = Texts.loaded("replicas 3 1 1; add 0 a; send 0; add 0 b; inc 0 0 3; write 0 0 8; send 0; remove 0 a");
        CHECKS.no("deliver to the sender", notes.deliver(0, 0));
        CHECKS.equal("tags of the sender", Texts.tags(notes, 0), "b");
        CHECKS.yes("deliver of the later message", notes.deliver(1, 1));
        CHECKS.equal("what it brings", Views.state(notes, 1), "3 +3-0 a1 b2 =8 ; 0 +0-0 =-1 ; 0 +0-0 =-1 ; ");
        CHECKS.no("deliver of the earlier one", notes.deliver(0, 1));
        CHECKS.no("deliver again", notes.deliver(1, 1));
        CHECKS.equal("messages stay", notes.messageCount(), 2);
        notes.addTag(1, 4);
        CHECKS.yes("deliver to another", notes.deliver(1, 2));
        CHECKS.equal("a message is not the replica that got it", Texts.tags(notes, 2), "ab");
        CHECKS.equal("deliveries are recorded", notes.undo(), 5);
        CHECKS.equal("tags after undo", Texts.tags(notes, 2), "");
        throwsBeyond("deliver of a message", 0, 1, message -> one(notes.deliver(message, 0)));
        throwsBeyond("deliver to a replica", 0, 2, replica -> one(notes.deliver(0, replica)));
        CHECKS.equal("wrong deliveries are not recorded", notes.undo(), 9);
    }

    private static void promise48Drop() {
        Notes notes = Texts.loaded(
                "replicas 4 0 0; add 0 a; send 0; add 1 b; send 1; add 2 c; send 2; add 3 d; send 3; send 0; send 1");
        CHECKS.equal("drop in the middle", notes.drop(1), 5);
        CHECKS.equal("the numbers of the others", "" + notes.senderOf(0) + notes.senderOf(1) + notes.senderOf(2)
                + notes.senderOf(3) + notes.senderOf(4), "02301");
        CHECKS.noIndex("the last number", () -> notes.senderOf(5));
        notes.deliver(1, 0);
        CHECKS.equal("the states move too", Texts.tags(notes, 0), "ac");
        CHECKS.equal("drop of the first", notes.drop(0), 4);
        CHECKS.equal("drop of the last", notes.drop(3), 3);
        CHECKS.equal("the rest", "" + notes.senderOf(0) + notes.senderOf(1) + notes.senderOf(2), "230");
        for (int wrong : new int[] {MIN, -1, 3, MAX}) {
            CHECKS.noIndex("drop(" + wrong + ")", () -> notes.drop(wrong));
        }
        CHECKS.equal("a sent one after drops", notes.send(3), 3);
        notes.deliver(3, 1);
        CHECKS.equal("what it brings", Texts.tags(notes, 1), "bd");
        CHECKS.equal("drop is recorded", notes.drop(3) * 10 + notes.undo(), 36);
        CHECKS.equal("senders after undo", notes.senderOf(3), 3);
        CHECKS.equal("drop of all", notes.drop(0) + notes.drop(0) + notes.drop(0) + notes.drop(0), 6);
        CHECKS.noIndex("drop of none", () -> notes.drop(0));
        Notes full = Texts.loaded("replicas 3 0 0; send 0; send 0; send 0; send 0; add 1 a; send 1; add 1 b; send 1");
        full.drop(0);
        full.addTag(2, 12);
        CHECKS.equal("send after drop from six", full.send(2), 5);
        full.deliver(4, 0);
        CHECKS.equal("the message before the new one", Texts.tags(full, 0), "ab");
        full.deliver(5, 0);
        CHECKS.equal("the new message", Texts.tags(full, 0), "abm");
    }

    private static void promise49Restore() {
        Notes notes = new Notes();
        notes.save(1);
        String before = Views.world(notes);
        notes.mergeAll();
        notes.send(2);
        notes.send(1);
        String later = Views.world(notes);
        CHECKS.badState("restore of an empty slot", () -> notes.restore(0));
        for (int wrong : new int[] {MIN, -1, 2, MAX}) {
            CHECKS.noIndex("restore(" + wrong + ")", () -> notes.restore(wrong));
        }
        CHECKS.equal("restore", notes.restore(1), 1);
        CHECKS.equal("all after restore", Views.world(notes), before);
        CHECKS.equal("undo of restore", notes.undo(), 3);
        CHECKS.equal("all after undo", Views.world(notes), later);
        notes.addTag(0, 9);
        CHECKS.equal("restore again", notes.restore(1), 1);
        notes.addTag(0, 9);
        notes.drop(0);
        CHECKS.equal("a saved state stays as it is", notes.restore(1), 1);
        CHECKS.equal("all after all", Views.world(notes), before);
    }

    // ---- promises 50 to 54

    private static void promise50Undo() {
        Notes notes = new Notes();
        CHECKS.badState("undo of nothing", notes::undo);
        String[] worlds = new String[14];
        for (int change = 0; change < 13; change++) {
            worlds[change] = Views.world(notes);
            notes.addTag(change % 3, change);
        }
        for (int left = 9; left >= 0; left--) {
            CHECKS.equal("undo", notes.undo(), left);
            CHECKS.equal("all after undo", Views.world(notes), worlds[left + 3]);
        }
        CHECKS.badState("undo of an eleventh change", notes::undo);
        notes.addTag(0, 15);
        notes.addTag(1, 15);
        CHECKS.equal("undo of a new change", notes.undo(), 1);
        notes.addTag(2, 15);
        CHECKS.equal("undo after undo and change", notes.undo(), 1);
        CHECKS.yes("a change that is not undone", notes.hasTag(0, 15));
        CHECKS.equal("undo of the first one", notes.undo(), 0);
        CHECKS.equal("all after that", Views.world(notes), worlds[3]);
    }

    private static void promise50UndoTakesBackEachChange() {
        Notes notes = new Notes();
        notes.save(0);
        notes.addTag(1, 7);
        String before = Views.world(notes);
        Checks.Call[] changes = {() -> notes.increment(0, 0, 9), () -> notes.decrement(2, 1, 9),
            () -> notes.addTag(0, 0), () -> notes.removeTag(1, 1), () -> notes.write(0, 0, 3), () -> notes.merge(0, 2),
            () -> notes.mergeAll(), () -> notes.send(1), () -> notes.deliver(0, 2), () -> notes.drop(0),
            () -> notes.restore(0)};
        for (int i = 0; i < changes.length; i++) {
            changes[i].run();
            CHECKS.no("change " + i + " alters something", Views.world(notes).equals(before));
            CHECKS.equal("undo of change " + i, notes.undo(), 1);
            CHECKS.equal("all after undo of change " + i, Views.world(notes), before);
        }
        notes.writeTags(1);
        notes.append(0x61616161, 0, 0, 0, 0);
        notes.addTag(0, 2);
        CHECKS.equal("undo with buffers", notes.undo(), 1);
        CHECKS.equal("the output after undo", notes.outputByte(1), 'h');
        CHECKS.badArgument("the input after undo", () -> notes.load(20));
        CHECKS.equal("the first error", notes.errorOffset(), 0);
        notes.addTag(0, 2);
        notes.save(1);
        notes.undo();
        CHECKS.equal("the error after undo", notes.errorKind(), 1);
        notes.restore(1);
        CHECKS.yes("a saved state after undo", notes.hasTag(0, 2));
    }

    private static void promise50OnlyChangesAreRecorded() {
        Notes notes = Texts.loaded("replicas 2 1 1; add 0 a; send 0; merge 1 0");
        notes.save(0);
        notes.writeTags(0);
        notes.writeRegister(0, 0);
        notes.tagsGained(0, 1);
        notes.mergedTags();
        notes.append(0, 0, 0, 0, 0);
        CHECKS.badState("no change has been made", notes::undo);
        notes.merge(0, 0);
        notes.mergeAll();
        notes.deliver(0, 0);
        notes.restore(0);
        CHECKS.equal("changes that alter nothing", notes.undo(), 3);
        CHECKS.badState("send of too much", () -> {
            for (int i = 0; i < 6; i++) {
                notes.send(0);
            }
        });
        CHECKS.equal("changes that were sent", notes.undo(), 7);
    }

    private static void promise51Save() {
        Notes notes = new Notes();
        String first = Views.world(notes);
        CHECKS.equal("save", notes.save(0), 1);
        notes.send(1);
        notes.addTag(2, 6);
        String second = Views.world(notes);
        CHECKS.equal("save in the other slot", notes.save(1), 2);
        CHECKS.equal("save is no change", notes.undo(), 1);
        notes.drop(0);
        notes.drop(0);
        for (int wrong : new int[] {MIN, -1, 2, MAX}) {
            CHECKS.noIndex("save(" + wrong + ")", () -> notes.save(wrong));
        }
        CHECKS.equal("restore of slot 1", notes.restore(1), 2);
        CHECKS.equal("all of slot 1", Views.world(notes), second);
        CHECKS.equal("restore of slot 0", notes.restore(0), 1);
        CHECKS.equal("all of slot 0", Views.world(notes), first);
        notes.restore(1);
        CHECKS.equal("save over a saved state", notes.save(0), 2);
        notes.drop(1);
        CHECKS.equal("restore of what replaced it", notes.restore(0), 2);
        CHECKS.equal("all of what replaced it", Views.world(notes), second);
    }

    private static void promise52WriteTags() {
        Notes notes = Texts.loaded("replicas 3 0 1; add 0 p; add 0 b; add 1 b; add 1 a; add 2 c; merge 0 1");
        CHECKS.equal("writeTags", notes.writeTags(0), 4);
        CHECKS.equal("the tags", Texts.output(notes, 4), "ab!p");
        CHECKS.equal("writeTags of one", notes.writeTags(2), 1);
        CHECKS.equal("the tag", notes.outputByte(0), 'c');
        CHECKS.noIndex("the replaced content", () -> notes.outputByte(1));
        for (int wrong : new int[] {MIN, -1, 3, MAX}) {
            CHECKS.noIndex("writeTags(" + wrong + ")", () -> notes.writeTags(wrong));
        }
        CHECKS.equal("the output after a wrong call", notes.outputByte(0), 'c');
        Notes all = Texts.loaded("replicas 2 0 0");
        CHECKS.equal("writeTags of none", all.writeTags(0), 0);
        CHECKS.noIndex("the output of none", () -> all.outputByte(0));
        for (int tag = 0; tag < 16; tag++) {
            all.addTag(0, tag);
            all.addTag(1, tag);
        }
        CHECKS.equal("writeTags of all", Texts.tags(all, 0), "abcdefghijklmnop");
        all.merge(0, 1);
        CHECKS.equal("writeTags of all twice", Texts.tags(all, 0), "a!b!c!d!e!f!g!h!i!j!k!l!m!n!o!p!");
        CHECKS.equal("the length of the longest", all.writeTags(0), 32);
    }

    private static void promise53WriteRegister() {
        Notes notes = Texts.loaded("replicas 4 0 2; write 0 1 10; write 1 1 0; write 2 1 9; write 3 1 99");
        CHECKS.equal("writeRegister of none", notes.writeRegister(0, 0), 1);
        CHECKS.equal("a hyphen", notes.outputByte(0), 45);
        CHECKS.equal("writeRegister of 10", Texts.register(notes, 0, 1), "10");
        CHECKS.equal("writeRegister of 0", Texts.register(notes, 1, 1), "0");
        CHECKS.equal("writeRegister of 9", notes.writeRegister(2, 1), 1);
        CHECKS.noIndex("the replaced content", () -> notes.outputByte(1));
        notes.merge(3, 2);
        CHECKS.equal("writeRegister by replicas", Texts.register(notes, 3, 1), "9|99");
        notes.merge(3, 1);
        notes.merge(3, 0);
        CHECKS.equal("the length of four", notes.writeRegister(3, 1), 9);
        CHECKS.equal("writeRegister of four", Texts.register(notes, 3, 1), "10|0|9|99");
        for (int wrong : new int[] {MIN, -1, 4, MAX}) {
            CHECKS.noIndex("writeRegister of replica " + wrong, () -> notes.writeRegister(wrong, 0));
        }
        for (int wrong : new int[] {MIN, -1, 2, MAX}) {
            CHECKS.noIndex("writeRegister of register " + wrong, () -> notes.writeRegister(0, wrong));
        }
        CHECKS.equal("the output after a wrong call", notes.outputByte(8), '9');
    }

    private static void promise54OutputByte() {
        Notes notes = new Notes();
        for (int wrong : new int[] {MIN, -1, 0, MAX}) {
            CHECKS.noIndex("outputByte(" + wrong + ") at first", () -> notes.outputByte(wrong));
        }
        notes.merge(0, 1);
        notes.writeTags(0);
        CHECKS.equal("the first byte", notes.outputByte(0), 97);
        CHECKS.equal("the last byte", notes.outputByte(1), 98);
        for (int wrong : new int[] {MIN, -1, 2, 31, 32, MAX}) {
            CHECKS.noIndex("outputByte(" + wrong + ")", () -> notes.outputByte(wrong));
        }
        notes.merge(2, 0);
        CHECKS.equal("other calls leave the output", notes.outputByte(1), 98);
    }

    /** Texts of all bytes at all places end in an answer, never in what the machine throws. */
    private static void anyArgumentsAreAnswered() {
        String text = "replicas 3 2 1;remove 0 a";
        for (int at = 0; at < text.length(); at++) {
            for (int sign = 0; sign < 256; sign++) {
                Notes notes = new Notes();
                String changed = text.substring(0, at) + (char) sign + text.substring(at + 1);
                String error = Texts.error(notes, changed);
                CHECKS.yes("the error of \"" + changed + "\" is " + error,
                        error.matches("[123]@[0-9]+") || error.equals("loaded 0@-1"));
                CHECKS.that("the offset " + error + " is not beyond the text", notes.errorOffset() <= text.length());
            }
        }
    }
}
