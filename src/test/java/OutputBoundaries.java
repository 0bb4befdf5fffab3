/** Boundaries of promises 52 to 54: the output buffer. */
final class OutputBoundaries {
    private static final String REPLACED = "to the output buffer and replaces its content";
    private static final String LENGTH = "Returns the length of the output.";

    private OutputBoundaries() {
    }

    static void addTo(Sentences sentences) {
        addTags(sentences);
        addRegisters(sentences);
        addBytes(sentences);
    }

    private static void addTags(Sentences sentences) {
        sentences.test(52, REPLACED, OutputBoundaries::tagsReplaceTheContent);
        sentences.test(52, "the letters of all present tags by ascending numbers", OutputBoundaries::lettersFromAToP);
        sentences.test(52, "an exclamation mark (byte 33) follows a letter if the tag has more than one live dot.",
                OutputBoundaries::markFromTwoDotsOn);
        sentences.test(52, LENGTH, OutputBoundaries::lengthsFrom0To32);
        sentences.test(52, "Throws `IndexOutOfBoundsException` if there is no such replica",
                due -> Refusals.replicas(due, (notes, replica) -> notes.writeTags(replica)));
    }

    private static void addRegisters(Sentences sentences) {
        sentences.test(53, REPLACED, OutputBoundaries::registerReplacesTheContent);
        sentences.test(53, "for each entry, by ascending replicas of the dots", OutputBoundaries::entriesByReplicas);
        sentences.test(53, "the value in decimal digits", OutputBoundaries::valuesFrom0To99);
        sentences.test(53, "with a bar (byte 124) between two", OutputBoundaries::barsBetweenTwo);
        sentences.test(53, "a hyphen (byte 45) if it has no entry.", OutputBoundaries::hyphenForNone);
        sentences.test(53, LENGTH, OutputBoundaries::lengthsFrom1To11);
        sentences.test(53, "Throws `IndexOutOfBoundsException` if there is no such replica or register",
                OutputBoundaries::writeRegisterThrows);
    }

    private static void addBytes(Sentences sentences) {
        sentences.test(54, "`index`: the index, from 0", OutputBoundaries::bytesFrom0On);
        sentences.test(54, "Returns a byte of the output buffer.", OutputBoundaries::outputStays);
        sentences.test(54, "Throws `IndexOutOfBoundsException` if there is no such byte", OutputBoundaries::outputByteThrows);
    }

    // ---- tags

    /** Replica 0 has all tags, each with four dots. */
    private static Notes allMerged() {
        Notes notes = Worlds.full();
        notes.mergeAll();
        return notes;
    }

    private static void tagsReplaceTheContent(Checks due) {
        Notes notes = allMerged();
        notes.writeTags(0);
        due.equal("the longest output", Views.output(notes), "a!b!c!d!e!f!g!h!i!j!k!l!m!n!o!p!");
        notes.addTag(0, 0);
        for (int tag = 1; tag < 16; tag++) {
            notes.removeTag(0, tag);
        }
        due.equal("writeTags of one", notes.writeTags(0), 1);
        due.equal("the output of one", Views.output(notes), "a");
        notes.removeTag(0, 0);
        due.equal("writeTags of none", notes.writeTags(0), 0);
        due.equal("the output of none", Views.output(notes), "");
        notes.writeRegister(0, 0);
        notes.writeTags(0);
        due.equal("the output of none after a register", Views.output(notes), "");
    }

    private static void lettersFromAToP(Checks due) {
        Notes notes = Worlds.empty(1, 0, 0);
        for (int tag = 15; tag >= 0; tag--) {
            notes.addTag(0, tag);
            due.equal("the tags from " + tag, Texts.tags(notes, 0), "abcdefghijklmnop".substring(tag));
        }
        for (int tag = 0; tag < 16; tag++) {
            Notes alone = Worlds.empty(2, 4, 4);
            alone.write(1, 0, 5);
            alone.decrement(1, 3, 5);
            alone.addTag(1, tag);
            due.equal("the only tag", Texts.tags(alone, 1), "" + (char) ('a' + tag));
            due.equal("its byte", alone.outputByte(0), 97 + tag);
        }
    }

    private static void markFromTwoDotsOn(Checks due) {
        Notes notes = Texts.loaded("replicas 4 0 0;add 0 a;add 1 a;add 2 a;add 3 a;add 3 b;add 2 p;add 3 p");
        String[] after = {"a", "a!", "a!p", "a!bp!"};
        for (int replica = 0; replica < 4; replica++) {
            notes.merge(0, replica);
            due.equal("the tags with dots of " + (replica + 1), Texts.tags(notes, 0), after[replica]);
        }
        due.equal("the mark's byte", notes.outputByte(1), 33);
        notes.addTag(0, 0);
        due.equal("the tags with one dot again", Texts.tags(notes, 0), "abp!");
    }

    private static void lengthsFrom0To32(Checks due) {
        Notes notes = allMerged();
        for (int tag = 0; tag < 16; tag++) {
            due.equal("writeTags", notes.writeTags(0), 32 - 2 * tag);
            notes.removeTag(0, tag);
        }
        due.equal("writeTags of none", notes.writeTags(0), 0);
        Notes alone = Worlds.full();
        due.equal("writeTags without marks", alone.writeTags(3), 16);
    }

    // ---- registers

    private static void registerReplacesTheContent(Checks due) {
        Notes notes = allMerged();
        notes.writeTags(0);
        due.equal("writeRegister after the longest output", notes.writeRegister(0, 0), 10);
        due.equal("the output of four entries", Views.output(notes), "0|10|20|30");
        notes.write(0, 0, 5);
        due.equal("writeRegister of one digit", notes.writeRegister(0, 0), 1);
        due.equal("the output of one digit", Views.output(notes), "5");
        Notes none = Texts.loaded("replicas 1 0 1;add 0 a;add 0 b");
        none.writeTags(0);
        none.writeRegister(0, 0);
        due.equal("the output of no entry", Views.output(none), "-");
    }

    private static void entriesByReplicas(Checks due) {
        Notes notes = Texts.loaded("replicas 4 0 4;write 3 3 1;write 2 3 50;write 0 3 99;write 1 3 0;write 3 2 7");
        due.equal("the entry of replica 3", Texts.register(notes, 3, 3), "1");
        notes.merge(3, 1);
        due.equal("the entries of 1 and 3", Texts.register(notes, 3, 3), "0|1");
        notes.merge(3, 2);
        notes.merge(3, 0);
        due.equal("the entries of all", Texts.register(notes, 3, 3), "99|0|50|1");
        due.equal("another register", Texts.register(notes, 3, 2), "7");
    }

    private static void valuesFrom0To99(Checks due) {
        Notes notes = Worlds.empty(4, 0, 4);
        for (int value = 0; value <= 99; value++) {
            notes.write(3, 3, value);
            due.equal("the digits of " + value, Texts.register(notes, 3, 3), Integer.toString(value));
        }
    }

    private static void barsBetweenTwo(Checks due) {
        Notes notes = Texts.loaded("replicas 4 0 1;write 0 0 9;write 1 0 9;write 2 0 9;write 3 0 9");
        String[] after = {"9", "9|9", "9|9|9", "9|9|9|9"};
        for (int replica = 0; replica < 4; replica++) {
            notes.merge(0, replica);
            due.equal("the register with entries of " + (replica + 1), Texts.register(notes, 0, 0), after[replica]);
        }
        due.equal("the bar's byte", notes.outputByte(1), 124);
    }

    private static void hyphenForNone(Checks due) {
        Notes notes = Texts.loaded("replicas 4 0 4;write 3 3 0");
        due.equal("writeRegister of none", notes.writeRegister(0, 3), 1);
        due.equal("the hyphen's byte", notes.outputByte(0), 45);
        due.equal("another register", Texts.register(notes, 3, 0), "-");
        due.equal("an entry of 0", Texts.register(notes, 3, 3), "0");
    }

    private static void lengthsFrom1To11(Checks due) {
        Notes notes = Texts.loaded("replicas 4 0 2;write 0 0 10;write 1 0 99;write 2 0 10;write 3 0 99;write 0 1 9");
        int[] lengths = {2, 5, 8, 11};
        for (int replica = 0; replica < 4; replica++) {
            notes.merge(0, replica);
            due.equal("writeRegister with entries of " + (replica + 1), notes.writeRegister(0, 0), lengths[replica]);
        }
        due.equal("the longest register", Views.output(notes), "10|99|10|99");
        due.equal("writeRegister of one digit", notes.writeRegister(0, 1), 1);
        due.equal("writeRegister of none", notes.writeRegister(2, 1), 1);
    }

    private static void writeRegisterThrows(Checks due) {
        Refusals.replicas(due, (notes, replica) -> notes.writeRegister(replica, 0));
        Refusals.registers(due, (notes, register) -> notes.writeRegister(0, register));
    }

    // ---- bytes

    private static void bytesFrom0On(Checks due) {
        Notes notes = allMerged();
        notes.writeTags(0);
        for (int index = 0; index < 32; index++) {
            due.equal("outputByte(" + index + ")", notes.outputByte(index), index % 2 == 1 ? 33 : 97 + index / 2);
        }
    }

    private static void outputStays(Checks due) {
        Notes notes = new Notes();
        notes.merge(0, 1);
        notes.writeTags(0);
        notes.removeTag(0, 0);
        notes.mergeAll();
        notes.undo();
        notes.save(0);
        notes.restore(0);
        notes.append(0, 0, 0, 0, 0);
        due.equal("the output after other calls", Views.output(notes), "ab");
    }

    private static void outputByteThrows(Checks due) {
        int[] none = {Integer.MIN_VALUE, -1, 0, 1, 31, 32, Integer.MAX_VALUE};
        for (int index : none) {
            due.noIndex("outputByte(" + index + ") at first", () -> new Notes().outputByte(index));
        }
        Refusals.range(due, Refusals.NO_INDEX, OutputBoundaries::hyphen, 0, 0, (notes, index) -> notes.outputByte(index));
        Refusals.range(due, Refusals.NO_INDEX, OutputBoundaries::longest, 0, 31, (notes, index) -> notes.outputByte(index));
        Notes empty = longest();
        for (int tag = 0; tag < 16; tag++) {
            empty.removeTag(0, tag);
        }
        empty.writeTags(0);
        for (int index : none) {
            due.noIndex("outputByte(" + index + ") of none", () -> empty.outputByte(index));
        }
    }

    private static Notes hyphen() {
        Notes notes = Worlds.empty(1, 0, 1);
        notes.writeRegister(0, 0);
        return notes;
    }

    private static Notes longest() {
        Notes notes = allMerged();
        notes.writeTags(0);
        return notes;
    }
}
