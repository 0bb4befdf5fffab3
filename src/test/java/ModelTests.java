import java.util.function.Supplier;

/** Drives OfflineNotes and ReferenceNotes by the same calls and compares all that can be asked. */
public final class ModelTests {
    private static final Checks CHECKS = new Checks("ModelTests");
    private static final int[] EDGES = {Integer.MIN_VALUE, -1, 16, 99, 100, Integer.MAX_VALUE};
    private static final int CALLS = 120;
    private static final int LEFT_FOR_QUESTIONS = 150;

    private final Dice dice;
    private final Notes notes = new Notes();
    private Notes asked = null;
    private final ReferenceNotes model = new ReferenceNotes();
    private String calls = "";

    private ModelTests(int seed) {
        dice = new Dice(seed);
    }

    /** Numbers that look random and are the same in each run. */
    private static final class Dice {
        private long state;

        Dice(int seed) {
            state = seed * 2654435761L + 12345;
        }

        int below(int bound) {
            state = state * 6364136223846793005L + 1442695040888963407L;
            return (int) ((state >>> 33) % bound);
        }
    }

    public static void main(String[] args) {
        for (int seed = 0; seed < 60; seed++) {
            ModelTests run = new ModelTests(seed);
            if (seed % 4 != 0) {
                run.loadText(run.worldText());
            }
            run.compareAll();
            for (int call = 0; call < CALLS && run.notes.callsLeft() > LEFT_FOR_QUESTIONS; call++) {
                run.change();
                if (call % 6 == 0 || call > CALLS - 15) {
                    run.compareAll();
                }
            }
        }
        for (int seed = 1000; seed < 1450; seed++) {
            ModelTests run = new ModelTests(seed);
            for (int text = 0; text < 8; text++) {
                run.loadText(run.spoilt(run.worldText()));
                run.compareErrors();
            }
            run.compareAll();
        }
        CHECKS.finish();
    }

    private void compare(String call, Supplier<Object> ours, Supplier<Object> due) {
        String got = outcome(ours);
        String wanted = outcome(due);
        if (!got.equals(wanted)) {
            CHECKS.that(calls + "then " + call + " answered " + got + ", due is " + wanted, false);
        } else {
            CHECKS.that(call, true);
        }
    }

    private static String outcome(Supplier<Object> call) {
        try {
            return call.get().toString();
        } catch (RuntimeException thrown) {
            return "throws." + thrown.getClass().getName();
        }
    }

    private void compareChange(String call, Supplier<Object> ours, Supplier<Object> due) {
        compare(call, ours, due);
        calls += call + "; ";
        asked = null;
    }

    /** An object like the one that is changed, which so many questions would use up. */
    private Notes asked() {
        if (asked == null || asked.callsLeft() == 0) {
            asked = notes.again();
        }
        return asked;
    }

    /** Mostly a small number, sometimes one that no range holds. */
    private int any(int usual) {
        return dice.below(40) == 0 ? EDGES[dice.below(EDGES.length)] : dice.below(usual);
    }

    private void change() {
        int a = any(model.replicaCount() + (dice.below(30) == 0 ? 1 : 0));
        int b = any(Math.max(1, model.counterCount()));
        int r = any(Math.max(1, model.registerCount()));
        int c = any(100);
        int tag = any(dice.below(3) == 0 ? 16 : 4);
        int other = any(model.replicaCount());
        int message = any(Math.max(1, model.messageCount()));
        int slot = any(2);
        String ab = "(" + a + ", " + b + ", " + c + ")";
        switch (dice.below(24)) {
            case 0, 1 -> compareChange("increment" + ab, () -> notes.increment(a, b, c),
                    () -> model.increment(a, b, c));
            case 2 -> compareChange("decrement" + ab, () -> notes.decrement(a, b, c), () -> model.decrement(a, b, c));
            case 3, 4, 5, 6 -> compareChange("addTag(" + a + ", " + tag + ")", () -> notes.addTag(a, tag),
                    () -> model.addTag(a, tag));
            case 7, 8 -> compareChange("removeTag(" + a + ", " + tag + ")", () -> notes.removeTag(a, tag),
                    () -> model.removeTag(a, tag));
            case 9, 10, 11 -> compareChange("write(" + a + ", " + r + ", " + c + ")", () -> notes.write(a, r, c),
                    () -> model.write(a, r, c));
            case 12, 13, 14, 15 -> compareChange("merge(" + a + ", " + other + ")", () -> notes.merge(a, other),
                    () -> model.merge(a, other));
            case 16 -> {
                if (dice.below(3) == 0) {
                    compareChange("mergeAll()", () -> notes.mergeAll(), () -> model.mergeAll());
                }
            }
            case 17, 18 -> compareChange("send(" + a + ")", () -> notes.send(a), () -> model.send(a));
            case 19, 20 -> compareChange("deliver(" + message + ", " + a + ")", () -> notes.deliver(message, a),
                    () -> model.deliver(message, a));
            case 21 -> compareChange("drop(" + message + ")", () -> notes.drop(message), () -> model.drop(message));
            case 22 -> saveOrRestore(slot);
            default -> undoOrLoad();
        }
    }

    private void saveOrRestore(int slot) {
        if (dice.below(2) == 0) {
            compareChange("save(" + slot + ")", () -> notes.save(slot), () -> model.save(slot));
        } else {
            compareChange("restore(" + slot + ")", () -> notes.restore(slot), () -> model.restore(slot));
        }
    }

    private void undoOrLoad() {
        if (dice.below(12) == 0) {
            loadText(dice.below(2) == 0 ? worldText() : spoilt(worldText()));
            return;
        }
        int times = dice.below(4) == 0 ? 12 : 1 + dice.below(3);
        for (int i = 0; i < times; i++) {
            compareChange("undo()", () -> notes.undo(), () -> model.undo());
        }
    }

    private void loadText(String text) {
        byte[] bytes = Texts.bytes(text);
        int words = (bytes.length + 3) / 4;
        int[] row = new int[(words + 4) / 5 * 5];
        for (int i = 0; i < row.length * 4; i++) {
            row[i / 4] = row[i / 4] << 8 | (i < bytes.length ? bytes[i] & 255 : ' ');
        }
        for (int i = 0; i < row.length; i += 5) {
            int at = i;
            compare("append of " + text,
                    () -> notes.append(row[at], row[at + 1], row[at + 2], row[at + 3], row[at + 4]),
                    () -> model.append(row[at], row[at + 1], row[at + 2], row[at + 3], row[at + 4]));
        }
        if (dice.below(10) == 0) {
            int wrong = dice.below(2) == 0 ? -1 : row.length * 4 + 1;
            compareChange("load(" + wrong + ")", () -> notes.load(wrong), () -> model.load(wrong));
            compareErrors();
        }
        compareChange("load of \"" + text + "\"", () -> notes.load(bytes.length), () -> model.load(bytes.length));
    }

    /** A text that is mostly free of errors. */
    private String worldText() {
        int replicas = 1 + dice.below(4);
        int counters = dice.below(5);
        int registers = dice.below(5);
        StringBuilder text = new StringBuilder();
        text.append("replicas ").append(replicas).append(' ').append(counters).append(' ').append(registers);
        int lines = dice.below(30);
        int messages = 0;
        for (int i = 0; i < lines && text.length() < 570; i++) {
            String replica = " " + dice.below(replicas);
            String last = " " + dice.below(replicas);
            String value = dice.below(5) == 0 ? " 0" + (1 + dice.below(9)) : " " + (1 + dice.below(99));
            char tag = (char) ('a' + dice.below(6));
            String line = switch (dice.below(9)) {
                case 0 -> counters == 0 ? "" : "inc" + replica + " " + dice.below(counters) + value;
                case 1 -> counters == 0 ? "" : "dec" + replica + " " + dice.below(counters) + value;
                case 2, 3 -> "add" + replica + " " + tag;
                case 4 -> dice.below(3) > 0 ? "" : "remove" + replica + " " + tag;
                case 5 -> registers == 0 ? "" : "write" + replica + " " + dice.below(registers) + value;
                case 6 -> "merge" + replica + last;
                case 7 -> messages == 6 && dice.below(5) > 0 ? "" : "send" + replica;
                default -> messages == 0 ? "" : "deliver " + dice.below(messages) + replica;
            };
            if (line.startsWith("send")) {
                messages++;
            }
            if (!line.isEmpty()) {
                text.append(dice.below(4) == 0 ? " \n;" : ";").append(dice.below(2) == 0 ? " " : "").append(line);
            }
        }
        return text.append(dice.below(3) == 0 ? "\n " : "").toString();
    }

    /** The text with some bytes replaced, left out or put in. */
    private String spoilt(String text) {
        String signs = "  \n;0123489abpqz{`/:@A\0\t\r\u00e9\u00ff";
        StringBuilder spoilt = new StringBuilder(text);
        for (int i = dice.below(3); i >= 0; i--) {
            int at = dice.below(spoilt.length());
            char sign = signs.charAt(dice.below(signs.length()));
            switch (dice.below(5)) {
                case 0 -> spoilt.setCharAt(at, sign);
                case 1 -> spoilt.deleteCharAt(at);
                case 2 -> spoilt.insert(at, sign);
                case 3 -> spoilt.setLength(Math.max(1, at));
                default -> replaceANumber(spoilt, at);
            }
            if (spoilt.length() == 0) {
                return ";";
            }
        }
        return spoilt.toString();
    }

    private void replaceANumber(StringBuilder text, int from) {
        for (int i = from; i < text.length(); i++) {
            if (Character.isDigit(text.charAt(i))) {
                text.setCharAt(i, (char) ('0' + dice.below(10)));
                return;
            }
        }
    }

    private void compareErrors() {
        compare("errorKind()", () -> asked().errorKind(), () -> model.errorKind());
        compare("errorOffset()", () -> asked().errorOffset(), () -> model.errorOffset());
    }

    private void compareAll() {
        compareErrors();
        compareWhole();
        for (int i = -1; i <= 5; i++) {
            int a = i;
            compareReplica(a);
            for (int j = -1; j <= 5; j++) {
                int b = j;
                comparePairs("(" + a + ", " + b + ")", a, b);
            }
        }
        for (int i = -1; i <= 6; i++) {
            int message = i;
            compare("senderOf(" + i + ")", () -> asked().senderOf(message), () -> model.senderOf(message));
            for (int j = -1; j <= 4; j++) {
                int replica = j;
                compare("isNews(" + i + ", " + j + ")", () -> asked().isNews(message, replica),
                        () -> model.isNews(message, replica));
            }
        }
        compareOutput();
    }

    private void compareWhole() {
        compare("replicaCount()", () -> asked().replicaCount(), () -> model.replicaCount());
        compare("counterCount()", () -> asked().counterCount(), () -> model.counterCount());
        compare("registerCount()", () -> asked().registerCount(), () -> model.registerCount());
        compare("differentStates()", () -> asked().differentStates(), () -> model.differentStates());
        compare("mergedTags()", () -> asked().mergedTags(), () -> model.mergedTags());
        compare("mergedConflicts()", () -> asked().mergedConflicts(), () -> model.mergedConflicts());
        compare("convergenceErrors()", () -> asked().convergenceErrors(), () -> model.convergenceErrors());
        compare("meanTags()", () -> asked().meanTags(), () -> model.meanTags());
        compare("completeShare()", () -> asked().completeShare(), () -> model.completeShare());
        compare("messageCount()", () -> asked().messageCount(), () -> model.messageCount());
    }

    private void compareReplica(int a) {
        String one = "(" + a + ")";
        compare("tagCount" + one, () -> asked().tagCount(a), () -> model.tagCount(a));
        compare("conflicts" + one, () -> asked().conflicts(a), () -> model.conflicts(a));
        compare("mergedValue" + one, () -> asked().mergedValue(a), () -> model.mergedValue(a));
        for (int i = -1; i <= 16; i++) {
            int tag = i;
            String two = "(" + a + ", " + tag + ")";
            compare("hasTag" + two, () -> asked().hasTag(a, tag), () -> model.hasTag(a, tag));
            compare("liveDots" + two, () -> asked().liveDots(a, tag), () -> model.liveDots(a, tag));
            compare("tagAt" + two, () -> asked().tagAt(a, tag), () -> model.tagAt(a, tag));
            for (int j = -1; j <= 4; j++) {
                int by = j;
                compare("tagDot(" + a + ", " + tag + ", " + by + ")", () -> asked().tagDot(a, tag, by),
                        () -> model.tagDot(a, tag, by));
            }
        }
    }

    private void comparePairs(String two, int a, int b) {
        compare("versionEntry" + two, () -> asked().versionEntry(a, b), () -> model.versionEntry(a, b));
        compare("areEqual" + two, () -> asked().areEqual(a, b), () -> model.areEqual(a, b));
        compare("covers" + two, () -> asked().covers(a, b), () -> model.covers(a, b));
        compare("areConcurrent" + two, () -> asked().areConcurrent(a, b), () -> model.areConcurrent(a, b));
        compare("counterValue" + two, () -> asked().counterValue(a, b), () -> model.counterValue(a, b));
        compare("entryCount" + two, () -> asked().entryCount(a, b), () -> model.entryCount(a, b));
        compare("greatestValue" + two, () -> asked().greatestValue(a, b), () -> model.greatestValue(a, b));
        compare("unseenDots" + two, () -> asked().unseenDots(a, b), () -> model.unseenDots(a, b));
        compare("deltaSize" + two, () -> asked().deltaSize(a, b), () -> model.deltaSize(a, b));
        compare("tagsGained" + two, () -> asked().tagsGained(a, b), () -> model.tagsGained(a, b));
        compare("tagsLost" + two, () -> asked().tagsLost(a, b), () -> model.tagsLost(a, b));
        for (int i = -1; i <= 4; i++) {
            int by = i;
            String three = "(" + a + ", " + b + ", " + by + ")";
            compare("increments" + three, () -> asked().increments(a, b, by), () -> model.increments(a, b, by));
            compare("decrements" + three, () -> asked().decrements(a, b, by), () -> model.decrements(a, b, by));
            compare("entryValue" + three, () -> asked().entryValue(a, b, by), () -> model.entryValue(a, b, by));
        }
    }

    private void compareOutput() {
        int replica = any(5);
        int register = any(5);
        if (dice.below(2) == 0) {
            compareChange("writeTags(" + replica + ")", () -> notes.writeTags(replica), () -> model.writeTags(replica));
        } else {
            compareChange("writeRegister(" + replica + ", " + register + ")",
                    () -> notes.writeRegister(replica, register), () -> model.writeRegister(replica, register));
        }
        for (int i = -1; i <= 33; i++) {
            int index = i;
            compare("outputByte(" + i + ")", () -> asked().outputByte(index), () -> model.outputByte(index));
        }
    }
}
