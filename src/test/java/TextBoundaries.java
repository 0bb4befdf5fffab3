/** Boundaries of the description text, and of promises 4 and 5, which tell its errors. */
final class TextBoundaries {
    private static final String HEAD = "replicas 2 1 1;";
    private static final String SIX = "replicas 2 1 1;send 0;send 0;send 0;send 0;send 0;send 0";

    private TextBoundaries() {
    }

    static void addTo(Sentences sentences) {
        addGrammar(sentences);
        addTokens(sentences);
        addReporting(sentences);
        addKinds(sentences);
        addPromises4And5(sentences);
    }

    private static void addGrammar(Sentences sentences) {
        sentences.test(3, "Braces enclose a part that may occur any number of times", TextBoundaries::linesFrom0On);
        sentences.test(3, "The numbers after \"replicas\" are the numbers of replicas, counters and registers.",
                TextBoundaries::numbersOfTheFirstLine);
        sentences.test(3, "replica, counter, amount (1 to 99).", TextBoundaries::amounts1To99);
        sentences.test(3, "\"add\" and \"remove\" tell a replica and a tag, which is a word of one letter from a to p.",
                TextBoundaries::tagsFromAToP);
        sentences.test(3, "\"write\" tells a replica, a register and a value.", TextBoundaries::values0To99);
        sentences.test(3, "\"merge\" merges into the first replica the state of the second one, which may be the same one.",
                TextBoundaries::mergeOfTheSameOne);
        sentences.test(3, "\"deliver\" delivers a message (the first number) to a replica.",
                TextBoundaries::deliverOfTheFirstAndTheLastMessage);
        sentences.test(3, "The lines are executed in their order.", TextBoundaries::linesInTheirOrder);
    }

    private static void addTokens(Sentences sentences) {
        sentences.test(3, "A token is a word (a run of letters a to z), a number (a run of digits) or a semicolon",
                TextBoundaries::lettersDigitsAndTheirNeighbours);
        sentences.test(3, "and each token is as long as possible.", TextBoundaries::tokensAreLong);
        sentences.test(3, "Spaces (byte 32) and line feeds (byte 10) may stand between tokens",
                TextBoundaries::blanksBetweenTokens);
        sentences.test(3, "and at both ends of the text.", TextBoundaries::blanksAtBothEnds);
        sentences.test(4, "A word or number that directly follows a word or number, without a space or line feed between"
                + " them, is a syntax error.", TextBoundaries::gluedTokens);
    }

    private static void addReporting(Sentences sentences) {
        sentences.test(5, "The parser reports the error with the smallest offset.", TextBoundaries::smallestOffset);
        sentences.test(5, "The offset of an error is the offset of the first byte of its token.",
                TextBoundaries::firstByteOfTheToken);
        sentences.test(5, "If the text ends too early, the offset is the length of the text.",
                TextBoundaries::endOfEachPart);
        sentences.test(4, "If several kinds of error apply to one token, the parser reports the smallest kind.",
                TextBoundaries::smallestKind);
    }

    private static void addKinds(Sentences sentences) {
        sentences.test(4, "Kind 1, syntax error: a token that the grammar does not allow at this place",
                TextBoundaries::kind1Misplaced);
        sentences.test(4, "(also a word that is no tag where a tag is needed)", TextBoundaries::kind1NoTag);
        sentences.test(4, "a number with more than 2 digits", TextBoundaries::kind1ThreeDigits);
        sentences.test(4, "a byte that starts no token", TextBoundaries::kind1WrongByte);
        sentences.test(4, "or the end of the text.", TextBoundaries::kind1End);
        sentences.test(4, "Kind 2, out of range: a number outside its range", TextBoundaries::kind2Range);
        sentences.test(4, "or the number of a replica, counter, register or message that does not exist.",
                TextBoundaries::kind2NotThere);
        sentences.test(4, "Kind 3, absent tag: the tag after \"remove\" that is not present in the state of the replica.",
                TextBoundaries::kind3AbsentTag);
        sentences.test(4, "Kind 4, too many messages: the word \"send\" when there are 6 messages.",
                TextBoundaries::kind4SeventhMessage);
    }

    private static void addPromises4And5(Sentences sentences) {
        sentences.test(4, "Returns the kind of the error that the last call of load() reported.",
                TextBoundaries::lastKindIsTold);
        sentences.test(4, "Returns 1 to 4", TextBoundaries::kinds1To4);
        sentences.test(4, "0 if that call found no error", TextBoundaries::kind0AfterASuccess);
        sentences.test(4, "if no text has been parsed yet.", TextBoundaries::kind0AtFirst);
        sentences.test(5, "Returns the offset of the error that the last call of load() reported.",
                TextBoundaries::lastOffsetIsTold);
        sentences.test(5, "Returns the offset in bytes", TextBoundaries::offsets0To600);
        sentences.test(5, "NONE if errorKind() is 0.", TextBoundaries::offsetNone);
    }

    /** Each row is a text and the error that it has. */
    private static void errors(Checks due, String[][] rows) {
        for (String[] row : rows) {
            due.equal("the error of \"" + row[0] + "\"", Texts.error(new Notes(), row[0]), row[1]);
        }
    }

    private static void loads(Checks due, String... texts) {
        for (String text : texts) {
            due.equal("the answer to \"" + text + "\"", Texts.error(new Notes(), text), "loaded 0@-1");
        }
    }

    // ---- the grammar

    private static void linesFrom0On(Checks due) {
        due.equal("a text without lines", Views.world(Texts.loaded("replicas 2 1 1")), Views.world(Worlds.empty(2, 1, 1)));
        StringBuilder text = new StringBuilder("replicas 4 4 4");
        for (int lines = 1; text.length() + 8 <= 600; lines++) {
            text.append(";add 3 a");
            due.equal("the dots of " + lines + " lines", Texts.loaded(text.toString()).tagDot(3, 0, 3), lines);
        }
        errors(due, new String[][] {{"replicas 2 1 1;", "1@15"}, {"replicas 2 1 1;;add 0 a", "1@15"},
            {"replicas 2 1 1;add 0 a;", "1@23"}});
    }

    private static void numbersOfTheFirstLine(Checks due) {
        for (int replicas = 1; replicas <= 4; replicas++) {
            for (int counters = 0; counters <= 4; counters++) {
                for (int registers = 0; registers <= 4; registers++) {
                    Notes notes = Worlds.empty(replicas, counters, registers);
                    due.equal("the numbers", "" + notes.replicaCount() + notes.counterCount() + notes.registerCount(),
                            "" + replicas + counters + registers);
                }
            }
        }
    }

    private static void amounts1To99(Checks due) {
        for (int amount = 1; amount <= 99; amount++) {
            due.equal("inc by " + amount, Texts.loaded(HEAD + "inc 1 0 " + amount).increments(1, 0, 1), amount);
            due.equal("dec by " + amount, Texts.loaded(HEAD + "dec 1 0 " + amount).decrements(1, 0, 1), amount);
        }
        loads(due, HEAD + "inc 1 0 01", HEAD + "dec 1 0 01");
        errors(due, new String[][] {{HEAD + "inc 1 0 0", "2@23"}, {HEAD + "inc 1 0 00", "2@23"},
            {HEAD + "inc 1 0 100", "1@23"}, {HEAD + "dec 1 0 0", "2@23"}, {HEAD + "dec 1 0 00", "2@23"},
            {HEAD + "dec 1 0 100", "1@23"}});
    }

    private static void tagsFromAToP(Checks due) {
        for (char tag = 'a'; tag <= 'p'; tag++) {
            due.equal("add of " + tag, Texts.tags(Texts.loaded(HEAD + "add 1 " + tag), 1), "" + tag);
            due.equal("remove of " + tag, Texts.tags(Texts.loaded(HEAD + "add 1 " + tag + ";remove 1 " + tag), 1), "");
        }
        for (char sign = 'q'; sign <= 'z'; sign++) {
            errors(due, new String[][] {{HEAD + "add 1 " + sign, "1@21"}, {HEAD + "remove 1 " + sign, "1@24"}});
        }
        errors(due, new String[][] {{HEAD + "add 1 `", "1@21"}, {HEAD + "add 1 {", "1@21"}, {HEAD + "add 1 A", "1@21"},
            {HEAD + "add 1 aa", "1@21"}, {HEAD + "add 1 pp", "1@21"}, {HEAD + "add 1 0", "1@21"},
            {HEAD + "add 1 a;remove 1 aa", "1@32"}, {HEAD + "add 1", "1@20"}});
    }

    private static void values0To99(Checks due) {
        for (int value = 0; value <= 99; value++) {
            due.equal("write of " + value, Texts.loaded(HEAD + "write 1 0 " + value).entryValue(1, 0, 1), value);
        }
        due.equal("write of 00", Texts.loaded(HEAD + "write 1 0 00").entryValue(1, 0, 1), 0);
        due.equal("write of 09", Texts.loaded(HEAD + "write 1 0 09").entryValue(1, 0, 1), 9);
        errors(due, new String[][] {{HEAD + "write 1 0 100", "1@25"}, {HEAD + "write 1 0 000", "1@25"},
            {HEAD + "write 1 0 -1", "1@25"}});
    }

    private static void mergeOfTheSameOne(Checks due) {
        Notes notes = Texts.loaded(HEAD + "add 0 a;add 1 b;write 1 0 5;merge 0 0;merge 1 1");
        due.equal("merges of the same ones", Views.world(notes), Views.world(Texts.loaded(HEAD
                + "add 0 a;add 1 b;write 1 0 5")));
        Notes last = Texts.loaded("replicas 4 0 0;add 3 a;add 0 b;merge 0 3");
        due.equal("the first one", Texts.tags(last, 0), "ab");
        due.equal("the second one", Texts.tags(last, 3), "a");
    }

    private static void deliverOfTheFirstAndTheLastMessage(Checks due) {
        String text = "replicas 4 0 0;add 0 a;send 0;add 0 b;send 0;send 0;send 0;send 0;add 0 c;send 0";
        Notes notes = Texts.loaded(text + ";deliver 0 3;deliver 5 1;deliver 1 2");
        due.equal("the first message", Texts.tags(notes, 3), "a");
        due.equal("the last message", Texts.tags(notes, 1), "abc");
        due.equal("the second message", Texts.tags(notes, 2), "ab");
        due.equal("to its sender", Texts.tags(Texts.loaded(text + ";remove 0 a;deliver 0 0"), 0), "bc");
        errors(due, new String[][] {{text + ";deliver 6 0", "2@" + (text.length() + 9)},
            {text + ";deliver 5 4", "2@" + (text.length() + 11)}, {"replicas 4 0 0;deliver 0 0", "2@23"}});
    }

    private static void linesInTheirOrder(Checks due) {
        due.equal("remove after add", Texts.tags(Texts.loaded(HEAD + "add 0 a;remove 0 a"), 0), "");
        errors(due, new String[][] {{HEAD + "remove 0 a;add 0 a", "3@24"}, {HEAD + "deliver 0 1;send 0", "2@23"}});
        due.equal("the last write", Texts.register(Texts.loaded(HEAD + "write 0 0 8;write 0 0 7"), 0, 0), "7");
        due.equal("merge after add", Texts.tags(Texts.loaded(HEAD + "add 0 a;merge 1 0"), 1), "a");
        due.equal("merge before add", Texts.tags(Texts.loaded(HEAD + "merge 1 0;add 0 a"), 1), "");
        due.equal("send before add", Texts.tags(Texts.loaded(HEAD + "send 0;add 0 a;deliver 0 1"), 1), "");
    }

    // ---- tokens

    private static void lettersDigitsAndTheirNeighbours(Checks due) {
        String loaded = "loaded 0@-1";
        for (char sign = 0; sign < 256; sign++) {
            boolean letter = sign >= 'a' && sign <= 'z';
            boolean digit = sign >= '0' && sign <= '9';
            boolean blank = sign == ' ' || sign == '\n';
            errors(due, new String[][] {{"replicas" + sign + " 1 1 1", letter ? "1@0" : blank ? loaded : "1@8"},
                {"replicas 1" + sign + " 1 1", digit ? "2@9" : blank ? loaded : "1@10"},
                {"replicas 1 1 1 " + sign + "add 0 a", sign == ';' ? loaded : blank ? "1@16" : "1@15"}});
        }
    }

    private static void tokensAreLong(Checks due) {
        errors(due, new String[][] {{HEAD + "add 1 az", "1@21"}, {HEAD + "add 1 za", "1@21"},
            {HEAD + "add 1 abcdefghijklmnopqrstuvwxyz", "1@21"}, {HEAD + "inc 0 0 100", "1@23"},
            {HEAD + "inc 0 0 0123456789", "1@23"}, {"replicasreplicas 1 1 1", "1@0"}, {HEAD + "addadd 1 a", "1@15"},
            {HEAD + "sendz 0", "1@15"}, {HEAD + "mergesend 0", "1@15"}, {HEAD + ";", "1@15"}});
        due.equal("a number of two digits", Texts.loaded(HEAD + "inc 0 0 98").counterValue(0, 0), 98);
        due.equal("semicolons are tokens of one byte", Texts.error(new Notes(), HEAD + "add 1 a;;"), "1@23");
    }

    private static void blanksBetweenTokens(Checks due) {
        String[] tokens = {"replicas", "2", "1", "1", ";", "inc", "0", "0", "12", ";", "add", "1", "p", ";", "write", "1",
            "0", "99"};
        String world = Views.world(Texts.loaded(String.join(" ", tokens)));
        for (String blank : new String[] {" ", "\n", "  ", "\n\n", " \n", "\n ", " \n \n ", " ".repeat(20)}) {
            due.equal("the world of tokens with blanks", Views.world(Texts.loaded(String.join(blank, tokens))), world);
        }
        due.equal("no blanks at semicolons", Views.world(Texts.loaded(HEAD + "inc 0 0 12;add 1 p;write 1 0 99")), world);
        for (int sign = 0; sign < 256; sign++) {
            if (sign != 32 && sign != 10 && sign != ';') {
                errors(due, new String[][] {{"replicas 2 1 1 " + (char) sign + "; inc 0 0 12", "1@15"}});
            }
        }
    }

    private static void blanksAtBothEnds(Checks due) {
        for (String blank : new String[] {" ", "\n", " \n", "\n ", "\n".repeat(293), " ".repeat(293)}) {
            loads(due, blank + "replicas 2 1 1", "replicas 2 1 1" + blank, blank + "replicas 2 1 1" + blank);
            loads(due, blank + HEAD + "add 0 a", HEAD + "add 0 a" + blank);
        }
        for (int sign : new int[] {0, 9, 11, 12, 13, 31, 33, 160, 255}) {
            errors(due, new String[][] {{(char) sign + "replicas 2 1 1", "1@0"}, {"replicas 2 1 1" + (char) sign, "1@14"}});
        }
    }

    private static void gluedTokens(Checks due) {
        errors(due, new String[][] {{"replicas2 1 1", "1@8"}, {"replicas 2 1 1add 0 a", "1@14"}, {HEAD + "add0 a", "1@18"},
            {HEAD + "add 0a", "1@20"}, {HEAD + "add 0 a1", "1@22"}, {HEAD + "inc 0 0 9x", "1@24"},
            {HEAD + "inc 0 0 99add 0 a", "1@25"}, {HEAD + "send0", "1@19"}, {HEAD + "1add 0 a", "1@15"},
            {HEAD + "send 0send 0", "1@21"}});
        loads(due, "replicas 2 1 1", "replicas\n2\n1\n1", HEAD + "add 0 a", HEAD + "add\n0\na", HEAD + "add 0 a;add 0 a",
                HEAD + "inc 0 0 99;add 0 a");
    }

    // ---- what is reported

    private static void smallestOffset(Checks due) {
        errors(due, new String[][] {{"replicas 5 x", "2@9"}, {"replicas 5x", "2@9"}, {"replicas 1 5 5", "2@11"},
            {HEAD + "inc 2 9 0", "2@19"}, {HEAD + "inc 0 9 0", "2@21"}, {HEAD + "inc 0 0 0;", "2@23"},
            {HEAD + "remove 0 a?", "3@24"}, {HEAD + "remove 0 a1", "3@24"}, {HEAD + "remove 0 b;remove 0 a;", "3@24"},
            {HEAD + "remove 9 b", "2@22"}, {SIX + ";send 9", "4@57"}, {SIX + ";send", "4@57"}, {SIX + ";send0", "4@57"},
            {SIX + ";send x;?", "4@57"}, {HEAD + "deliver 0 9", "2@23"}, {HEAD + "merge 9 9", "2@21"}, {"?;", "1@0"}});
    }

    private static void firstByteOfTheToken(Checks due) {
        errors(due, new String[][] {{"replicass 1 1 1", "1@0"}, {" replicass 1 1 1", "1@1"}, {"\n\nx", "1@2"},
            {"replicas 99 1 1", "2@9"}, {"replicas   99 1 1", "2@11"}, {HEAD + "adder 0 a", "1@15"},
            {HEAD + "  adder 0 a", "1@17"}, {HEAD + "inc 22 0 1", "2@19"}, {HEAD + "inc 0  22 1", "2@22"},
            {HEAD + "inc 0 0 \n00", "2@24"}, {HEAD + "remove 0  p", "3@25"}, {HEAD + "add 0 \nabc", "1@22"},
            {SIX + ";\n send 0", "4@59"}, {HEAD + "inc 0 0 12345", "1@23"}});
    }

    private static void endOfEachPart(Checks due) {
        String text = "replicas 2 1 1;add 0 a;remove 0 a;deliver";
        int[] wholes = {14, 22, 33};
        for (int length = 0; length <= text.length(); length++) {
            String part = text.substring(0, length);
            boolean isWord = length > 0 && Character.isLetter(text.charAt(length - 1));
            boolean isWhole = length == wholes[0] || length == wholes[1] || length == wholes[2];
            boolean isBroken = isWord && !part.matches(".*\\b(replicas|add|remove|deliver)");
            if (!isWhole && !isBroken) {
                errors(due, new String[][] {{part, "1@" + length}, {part + " ", "1@" + (length + 1)},
                    {part + "\n \n", "1@" + (length + 3)}});
            } else if (isWhole) {
                loads(due, part, part + " ", part + "\n \n");
            }
        }
        errors(due, new String[][] {{"", "1@0"}, {" ".repeat(600), "1@600"}, {"replicas 2 1" + " ".repeat(588), "1@600"}});
    }

    private static void smallestKind(Checks due) {
        // of one token: no digits too many and out of range, no tag here and not present, no place and too many messages
        errors(due, new String[][] {{"replicas 999 1 1", "1@9"}, {HEAD + "inc 222 0 1", "1@19"},
            {HEAD + "deliver 000 0", "1@23"}, {HEAD + "remove 0 q", "1@24"}, {HEAD + "remove 0b", "1@23"},
            {HEAD + "remove 0 ab", "1@24"}, {SIX + " send 0", "1@57"}, {SIX + ";send send", "4@57"},
            {SIX + ";add 0 send", "1@63"}, {HEAD + "send9", "1@19"}, {"replicas9 1 1", "1@8"}});
    }

    // ---- the kinds

    private static void kind1Misplaced(Checks due) {
        errors(due, new String[][] {{"2 1 1", "1@0"}, {";", "1@0"}, {"add 0 a", "1@0"}, {"replicas replicas", "1@9"},
            {"replicas ; 1 1", "1@9"}, {"replicas 1 ;", "1@11"}, {"replicas 1 1 ;", "1@13"}, {"replicas 1 1 1 1", "1@15"},
            {"replicas 1 1 1 add 0 a", "1@15"}, {HEAD + "replicas 1 1 1", "1@15"}, {HEAD + "7", "1@15"},
            {HEAD + "inc a 0 1", "1@19"}, {HEAD + "inc 0 a 1", "1@21"}, {HEAD + "inc 0 0 a", "1@23"},
            {HEAD + "inc 0 0 ;", "1@23"}, {HEAD + "inc 0 0 1 1", "1@25"}, {HEAD + "dec a", "1@19"},
            {HEAD + "dec 0 0 1 a", "1@25"}, {HEAD + "add a a", "1@19"}, {HEAD + "add 0 a a", "1@23"},
            {HEAD + "remove a a", "1@22"}, {HEAD + "add 0 a;remove 0 a 0", "1@34"}, {HEAD + "write a", "1@21"},
            {HEAD + "write 0 a", "1@23"}, {HEAD + "write 0 0 a", "1@25"}, {HEAD + "write 0 0 0 0", "1@27"},
            {HEAD + "merge a", "1@21"}, {HEAD + "merge 0 ;", "1@23"}, {HEAD + "merge 0 1 0", "1@25"}, {HEAD + "send a", "1@20"},
            {HEAD + "send 0 0", "1@22"}, {HEAD + "send 0;deliver a", "1@30"}, {HEAD + "send 0;deliver 0 a", "1@32"},
            {HEAD + "send 0;deliver 0 0 0", "1@34"}});
        kind1AlmostTheWord(due);
    }

    /** Words that differ from a line's word by one letter, at its start, in it, or at its end. */
    private static void kind1AlmostTheWord(Checks due) {
        String[] words = {"inc", "dec", "add", "remove", "write", "merge", "send", "deliver"};
        String text = "replicas 2 1 1;add 0 a;send 0;";
        for (String word : words) {
            String rest = word.equals("inc") || word.equals("dec") || word.equals("write") ? " 0 0 1"
                    : word.equals("add") || word.equals("remove") ? " 0 a" : word.equals("send") ? " 0" : " 0 0";
            loads(due, text + word + rest);
            for (String almost : almost(word)) {
                errors(due, new String[][] {{text + almost + rest, "1@" + text.length()}});
            }
        }
        for (String almost : almost("replicas")) {
            errors(due, new String[][] {{almost + " 2 1 1", "1@0"}});
        }
    }

    private static String[] almost(String word) {
        int last = word.length() - 1;
        return new String[] {"z" + word.substring(1), word.charAt(0) + "z" + word.substring(2), word.substring(0, last) + "z",
            word.substring(1), word.substring(0, last), word + "z", word + word.charAt(last), "z" + word};
    }

    private static void kind1NoTag(Checks due) {
        errors(due, new String[][] {{HEAD + "add 0 q", "1@21"}, {HEAD + "add 0 z", "1@21"}, {HEAD + "add 0 ab", "1@21"},
            {HEAD + "add 0 add", "1@21"}, {HEAD + "remove 0 q", "1@24"}, {HEAD + "remove 0 ab", "1@24"}, {HEAD + "add 0 ;", "1@21"},
            {HEAD + "add 0 5", "1@21"}, {HEAD + "remove 0 5", "1@24"}});
        loads(due, HEAD + "add 0 a", HEAD + "add 0 p", HEAD + "add 0 p;remove 0 p");
    }

    private static void kind1ThreeDigits(Checks due) {
        errors(due, new String[][] {{"replicas 002 1 1", "1@9"}, {"replicas 2 001 1", "1@11"}, {"replicas 2 1 001", "1@13"},
            {HEAD + "inc 000 0 1", "1@19"}, {HEAD + "inc 0 000 1", "1@21"}, {HEAD + "inc 0 0 001", "1@23"},
            {HEAD + "dec 0 0 001", "1@23"}, {HEAD + "add 001 a", "1@19"}, {HEAD + "write 0 0 099", "1@25"},
            {HEAD + "merge 0 001", "1@23"}, {HEAD + "send 001", "1@20"}, {HEAD + "send 0;deliver 000 0", "1@30"},
            {HEAD + "inc 0 0 4294967297", "1@23"}});
        loads(due, "replicas 02 01 01", HEAD + "inc 00 00 01", HEAD + "dec 01 00 99", HEAD + "add 01 a", HEAD + "write 01 00 09",
                HEAD + "merge 00 01", HEAD + "send 01;deliver 00 01");
    }

    private static void kind1WrongByte(Checks due) {
        for (int sign = 0; sign < 256; sign++) {
            boolean letter = sign >= 'a' && sign <= 'z';
            boolean digit = sign >= '0' && sign <= '9';
            boolean blank = sign == ' ' || sign == '\n';
            if (!letter && !digit && !blank && sign != ';') {
                char wrong = (char) sign;
                errors(due, new String[][] {{"" + wrong, "1@0"}, {"replicas" + wrong + "2 1 1", "1@8"},
                    {"replicas 2 1 1" + wrong, "1@14"}, {HEAD + wrong + "add 0 a", "1@15"}, {HEAD + "add 0 " + wrong, "1@21"},
                    {HEAD + "inc 0 0 1" + wrong, "1@24"}});
            }
        }
    }

    private static void kind1End(Checks due) {
        errors(due, new String[][] {{"", "1@0"}, {"replicas", "1@8"}, {"replicas 2", "1@10"}, {"replicas 2 1", "1@12"},
            {HEAD, "1@15"}, {HEAD + "inc", "1@18"}, {HEAD + "inc 0", "1@20"}, {HEAD + "inc 0 0", "1@22"}, {HEAD + "dec 0 0", "1@22"},
            {HEAD + "add", "1@18"}, {HEAD + "add 0", "1@20"}, {HEAD + "remove 0", "1@23"}, {HEAD + "write 0 0", "1@24"},
            {HEAD + "merge 0", "1@22"}, {HEAD + "send", "1@19"}, {HEAD + "deliver", "1@22"}, {HEAD + "send 0;deliver 0", "1@31"}});
    }

    private static void kind2Range(Checks due) {
        errors(due, new String[][] {{"replicas 0 1 1", "2@9"}, {"replicas 5 1 1", "2@9"}, {"replicas 99 1 1", "2@9"},
            {"replicas 1 5 1", "2@11"}, {"replicas 1 99 1", "2@11"}, {"replicas 1 1 5", "2@13"}, {"replicas 1 1 99", "2@13"},
            {HEAD + "inc 0 0 0", "2@23"}, {HEAD + "dec 0 0 0", "2@23"}});
        loads(due, "replicas 1 0 0", "replicas 4 4 4", HEAD + "inc 0 0 1", HEAD + "inc 0 0 99", HEAD + "dec 0 0 1",
                HEAD + "dec 0 0 99", HEAD + "write 0 0 0", HEAD + "write 0 0 99");
    }

    private static void kind2NotThere(Checks due) {
        for (int count = 1; count <= 4; count++) {
            replicaIsNotThere(due, count);
        }
        for (int count = 0; count <= 4; count++) {
            errors(due, new String[][] {{"replicas 2 " + count + " 2;inc 0 " + count + " 1", "2@21"},
                {"replicas 2 " + count + " 2;dec 0 " + count + " 1", "2@21"},
                {"replicas 2 2 " + count + ";write 0 " + count + " 1", "2@23"}});
            if (count > 0) {
                loads(due, "replicas 2 " + count + " 0;inc 0 " + (count - 1) + " 1;dec 0 " + (count - 1) + " 1",
                        "replicas 2 0 " + count + ";write 0 " + (count - 1) + " 1");
            }
        }
        String text = "replicas 2 0 0";
        for (int count = 0; count <= 6; count++) {
            errors(due, new String[][] {{text + ";deliver " + count + " 0", "2@" + (text.length() + 9)}});
            text += ";send 0";
        }
        loads(due, SIX + ";deliver 0 0", SIX + ";deliver 5 1");
    }

    private static void replicaIsNotThere(Checks due, int count) {
        String head = "replicas " + count + " 1 1;";
        String last = " " + (count - 1);
        String beyond = " " + count;
        errors(due, new String[][] {{head + "inc" + beyond + " 0 1", "2@19"}, {head + "dec" + beyond + " 0 1", "2@19"},
            {head + "add" + beyond + " a", "2@19"}, {head + "remove" + beyond + " a", "2@22"},
            {head + "write" + beyond + " 0 1", "2@21"}, {head + "merge" + beyond + " 0", "2@21"},
            {head + "merge 0" + beyond, "2@23"}, {head + "send" + beyond, "2@20"},
            {head + "send 0;deliver 0" + beyond, "2@32"}});
        loads(due, head + "inc" + last + " 0 1", head + "dec" + last + " 0 1", head + "add" + last + " a;remove" + last + " a",
                head + "write" + last + " 0 1", head + "merge" + last + last, head + "send" + last + ";deliver 0" + last);
    }

    private static void kind3AbsentTag(Checks due) {
        errors(due, new String[][] {{HEAD + "remove 0 a", "3@24"}, {HEAD + "remove 0 p", "3@24"},
            {HEAD + "add 1 a;remove 0 a", "3@32"}, {HEAD + "add 0 b;remove 0 a", "3@32"},
            {HEAD + "add 0 a;remove 0 a;remove 0 a", "3@43"},
            {HEAD + "add 0 a;merge 1 0;remove 1 a;merge 0 1;remove 0 a", "3@63"}});
        loads(due, HEAD + "add 0 a;remove 0 a", HEAD + "add 0 p;remove 0 p", HEAD + "add 0 a;merge 1 0;remove 1 a",
                HEAD + "add 0 a;merge 1 0;remove 1 a;remove 0 a");
    }

    private static void kind4SeventhMessage(Checks due) {
        String text = "replicas 2 1 1";
        for (int messages = 1; messages <= 6; messages++) {
            text += ";send 0";
            due.equal("the messages of the text", Texts.loaded(text).messageCount(), messages);
        }
        errors(due, new String[][] {{text + ";send 0", "4@57"}, {text + ";deliver 0 1;send 1", "4@69"}, {text + ";sent 0", "1@57"}});
    }

    // ---- promises 4 and 5

    private static void lastKindIsTold(Checks due) {
        Notes notes = new Notes();
        due.equal("a first error", Texts.error(notes, HEAD + "remove 0 a"), "3@24");
        notes.append(0, 0, 0, 0, 0);
        due.noIndex("load of too much", () -> notes.load(21));
        due.equal("the kind after a refused length", notes.errorKind(), 3);
        due.badArgument("load of nothing", () -> notes.load(0));
        due.equal("the kind of the second error", notes.errorKind(), 1);
        due.equal("a third error", Texts.error(notes, SIX + ";send 0"), "4@57");
        due.equal("no error", Texts.error(notes, HEAD + "send 0"), "loaded 0@-1");
        due.equal("a fourth error", Texts.error(notes, "replicas 0"), "2@9");
    }

    private static void kinds1To4(Checks due) {
        errors(due, new String[][] {{"replicas", "1@8"}, {"replicas 0", "2@9"}, {HEAD + "remove 0 a", "3@24"},
            {SIX + ";send 0", "4@57"}});
    }

    private static void kind0AfterASuccess(Checks due) {
        for (String wrong : new String[] {"replicas", "replicas 0", HEAD + "remove 0 a", SIX + ";send 0"}) {
            Notes notes = new Notes();
            Texts.error(notes, wrong);
            due.that("an error of \"" + wrong + "\"", notes.errorKind() != 0);
            Texts.load(notes, HEAD + "add 0 a");
            due.equal("the kind after a success", notes.errorKind(), 0);
        }
    }

    private static void kind0AtFirst(Checks due) {
        Notes notes = new Notes();
        due.equal("the kind at first", notes.errorKind(), 0);
        notes.append(0, 0, 0, 0, 0);
        due.noIndex("load of too much", () -> notes.load(21));
        due.equal("the kind after a refused length", notes.errorKind(), 0);
    }

    private static void lastOffsetIsTold(Checks due) {
        Notes notes = new Notes();
        due.equal("a first error", Texts.error(notes, "replicas 2 1 x"), "1@13");
        due.noIndex("load of too much", () -> notes.load(1));
        due.equal("the offset after a refused length", notes.errorOffset(), 13);
        due.equal("a second error of this kind", Texts.error(notes, "replicas x"), "1@9");
        due.equal("a third one", Texts.error(notes, "x"), "1@0");
    }

    private static void offsets0To600(Checks due) {
        errors(due, new String[][] {{"", "1@0"}, {"x", "1@0"}, {" x", "1@1"}, {" ".repeat(599) + "x", "1@599"},
            {" ".repeat(600), "1@600"}});
    }

    private static void offsetNone(Checks due) {
        Notes notes = new Notes();
        due.equal("the offset at first", notes.errorOffset(), OfflineNotes.NONE);
        due.equal("an error", Texts.error(notes, "x"), "1@0");
        Texts.load(notes, HEAD + "add 0 a");
        due.equal("the offset after a success", notes.errorOffset(), OfflineNotes.NONE);
    }
}
