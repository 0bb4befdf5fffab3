/**
 * A simulator of replicated data types for offline notes: counters, a set of tags and multi-value
 * registers that can be merged in any order.
 */
public final class OfflineNotes {
    public static final int NONE = -1;

    private static final int MAX_REPLICAS = 4;
    private static final int MAX_COUNTERS = 4;
    private static final int MAX_REGISTERS = 4;
    private static final int TAGS = 16;
    private static final int MAX_MESSAGES = 6;
    private static final int MAX_NUMBER = 99;
    private static final int MAX_UNDO = 10;
    private static final int SLOTS = 2;
    private static final int INPUT_LIMIT = 600;
    private static final int APPENDED_BYTES = 20;
    // the most is written by 16 letters, each with an exclamation mark
    private static final int OUTPUT_LIMIT = 32;
    private static final String START = "replicas 3 2 1; inc 0 0 5; dec 1 0 2; add 0 a; add 1 b; send 0; merge 1 0; remove 1 a; add 0 a; write 0 0 7; write 2 0 9; add 2 c";

    private final char[] input = new char[INPUT_LIMIT];
    private int inputLength = 0;
    private int errorKind = 0;
    private int errorOffset = NONE;
    private final char[] output = new char[OUTPUT_LIMIT];
    private int outputLength = 0;
    private World world;
    // a text is parsed into this one, so that a text with an error leaves the world alone
    private World spare = new World();
    private final History history = new History();
    // null where nothing is saved
    private final World[] saved = new World[SLOTS];
    // kept to merge on trial without making a state for each call
    private final State trial = new State();
    private final State secondTrial = new State();

    public OfflineNotes() {
        World first = new World();
        new Parser(START.toCharArray(), START.length(), first).parse();
        world = first;
    }

    // ---- input

    public int append(int a, int b, int c, int d, int e) throws IllegalStateException {
        if (inputLength > INPUT_LIMIT - APPENDED_BYTES) {
            throw new IllegalStateException("the input buffer is full");
        }
        appendWord(a);
        appendWord(b);
        appendWord(c);
        appendWord(d);
        appendWord(e);
        return inputLength;
    }

    private void appendWord(int word) {
        for (int shift = 24; shift >= 0; shift -= 8) {
            input[inputLength] = (char) ((word >>> shift) & 255);
            inputLength++;
        }
    }

    public int load(int length) throws IndexOutOfBoundsException, IllegalArgumentException {
        if (length < 0 || length > inputLength) {
            throw new IndexOutOfBoundsException("the length is out of range");
        }
        Parser parser = new Parser(input, length, spare);
        parser.parse();
        inputLength = 0;
        errorKind = parser.errorKind;
        errorOffset = parser.errorOffset;
        if (errorKind != 0) {
            throw new IllegalArgumentException("the text has an error");
        }
        World replaced = world;
        world = spare;
        spare = replaced;
        history.forget();
        for (int slot = 0; slot < SLOTS; slot++) {
            saved[slot] = null;
        }
        return world.replicaCount;
    }

    public int errorKind() {
        return errorKind;
    }

    public int errorOffset() {
        return errorOffset;
    }

    // ---- replicas

    public int replicaCount() {
        return world.replicaCount;
    }

    public int counterCount() {
        return world.counterCount;
    }

    public int registerCount() {
        return world.registerCount;
    }

    public int versionEntry(int replica, int other) throws IndexOutOfBoundsException {
        State state = stateOf(replica);
        requireReplica(other);
        return state.version(other);
    }

    public boolean areEqual(int first, int second) throws IndexOutOfBoundsException {
        return stateOf(first).sameAs(stateOf(second));
    }

    public boolean covers(int first, int second) throws IndexOutOfBoundsException {
        return knowsAllOf(stateOf(first), stateOf(second));
    }

    public boolean areConcurrent(int first, int second) throws IndexOutOfBoundsException {
        State one = stateOf(first);
        State other = stateOf(second);
        return !knowsAllOf(one, other) && !knowsAllOf(other, one);
    }

    public int differentStates() {
        int count = 0;
        for (int replica = 0; replica < world.replicaCount; replica++) {
            if (isFirstOfItsKind(replica)) {
                count++;
            }
        }
        return count;
    }

    private boolean isFirstOfItsKind(int replica) {
        for (int earlier = 0; earlier < replica; earlier++) {
            if (world.replicas[earlier].sameAs(world.replicas[replica])) {
                return false;
            }
        }
        return true;
    }

    // ---- counters

    public int counterValue(int replica, int counter) throws IndexOutOfBoundsException {
        State state = stateOf(replica);
        requireCounter(counter);
        return state.total(counter);
    }

    public int increments(int replica, int counter, int by) throws IndexOutOfBoundsException {
        return sumOf(State.INCREMENTS, replica, counter, by);
    }

    public int decrements(int replica, int counter, int by) throws IndexOutOfBoundsException {
        return sumOf(State.DECREMENTS, replica, counter, by);
    }

    private int sumOf(int part, int replica, int counter, int by) {
        State state = stateOf(replica);
        requireCounter(counter);
        requireReplica(by);
        return state.sum(part, counter, by);
    }

    // ---- tags

    public boolean hasTag(int replica, int tag) throws IndexOutOfBoundsException {
        return liveDots(replica, tag) > 0;
    }

    public int liveDots(int replica, int tag) throws IndexOutOfBoundsException {
        State state = stateOf(replica);
        requireTag(tag);
        return state.dotsOfTag(tag);
    }

    public int tagDot(int replica, int tag, int by) throws IndexOutOfBoundsException {
        State state = stateOf(replica);
        requireTag(tag);
        requireReplica(by);
        return state.dotOfTag(tag, by);
    }

    public int tagCount(int replica) throws IndexOutOfBoundsException {
        return stateOf(replica).presentTags();
    }

    public int tagAt(int replica, int index) throws IndexOutOfBoundsException {
        int tag = stateOf(replica).presentTag(index);
        if (tag == NONE) {
            throw new IndexOutOfBoundsException("no such tag");
        }
        return tag;
    }

    // ---- registers

    public int entryCount(int replica, int register) throws IndexOutOfBoundsException {
        State state = stateOf(replica);
        requireRegister(register);
        return state.entries(register);
    }

    public int entryValue(int replica, int register, int by) throws IndexOutOfBoundsException {
        State state = stateOf(replica);
        requireRegister(register);
        requireReplica(by);
        return state.valueBy(register, by);
    }

    public int greatestValue(int replica, int register) throws IndexOutOfBoundsException {
        State state = stateOf(replica);
        requireRegister(register);
        int greatest = NONE;
        for (int by = 0; by < MAX_REPLICAS; by++) {
            greatest = Math.max(greatest, state.valueBy(register, by));
        }
        return greatest;
    }

    public int conflicts(int replica) throws IndexOutOfBoundsException {
        return stateOf(replica).registersInConflict();
    }

    // ---- merging: nothing changes

    public int unseenDots(int from, int to) throws IndexOutOfBoundsException {
        State knowing = stateOf(from);
        State asking = stateOf(to);
        int count = 0;
        for (int by = 0; by < MAX_REPLICAS; by++) {
            count += Math.max(0, knowing.version(by) - asking.version(by));
        }
        return count;
    }

    public int deltaSize(int from, int to) throws IndexOutOfBoundsException {
        return stateOf(from).newsFor(stateOf(to));
    }

    public int tagsGained(int target, int source) throws IndexOutOfBoundsException {
        State before = stateOf(target);
        State after = mergedOnTrial(before, stateOf(source));
        return after.tagsMissingIn(before);
    }

    public int tagsLost(int target, int source) throws IndexOutOfBoundsException {
        State before = stateOf(target);
        State after = mergedOnTrial(before, stateOf(source));
        return before.tagsMissingIn(after);
    }

    public int mergedValue(int counter) throws IndexOutOfBoundsException {
        requireCounter(counter);
        return allMergedOnTrial().total(counter);
    }

    public int mergedTags() {
        return allMergedOnTrial().presentTags();
    }

    public int mergedConflicts() {
        return allMergedOnTrial().registersInConflict();
    }

    public int convergenceErrors() {
        State ascending = allMergedOnTrial();
        State descending = secondTrial;
        descending.empty();
        for (int replica = world.replicaCount - 1; replica >= 0; replica--) {
            descending.absorb(world.replicas[replica]);
        }
        return ascending.sameAs(descending) ? 0 : 1;
    }

    public double meanTags() {
        int tags = 0;
        for (int replica = 0; replica < world.replicaCount; replica++) {
            tags += world.replicas[replica].presentTags();
        }
        return (double) tags / (double) world.replicaCount;
    }

    public float completeShare() {
        int complete = 0;
        for (int replica = 0; replica < world.replicaCount; replica++) {
            if (knowsEveryState(world.replicas[replica])) {
                complete++;
            }
        }
        return (float) complete / (float) world.replicaCount;
    }

    private boolean knowsEveryState(State knowing) {
        for (int replica = 0; replica < world.replicaCount; replica++) {
            if (!knowsAllOf(knowing, world.replicas[replica])) {
                return false;
            }
        }
        return true;
    }

    // ---- messages

    public int messageCount() {
        return world.messageCount;
    }

    public int senderOf(int message) throws IndexOutOfBoundsException {
        requireMessage(message);
        return world.senders[message];
    }

    public boolean isNews(int message, int replica) throws IndexOutOfBoundsException {
        requireMessage(message);
        return !knowsAllOf(stateOf(replica), world.messages[message]);
    }

    // ---- changes

    public int increment(int replica, int counter, int amount)
            throws IndexOutOfBoundsException, IllegalArgumentException {
        return changeCounter(State.INCREMENTS, replica, counter, amount);
    }

    public int decrement(int replica, int counter, int amount)
            throws IndexOutOfBoundsException, IllegalArgumentException {
        return changeCounter(State.DECREMENTS, replica, counter, amount);
    }

    private int changeCounter(int part, int replica, int counter, int amount) {
        State state = stateOf(replica);
        requireCounter(counter);
        if (amount < 1 || amount > MAX_NUMBER) {
            throw new IllegalArgumentException("the amount is out of range");
        }
        history.record(world);
        state.addToSum(part, counter, replica, amount);
        return state.total(counter);
    }

    public int addTag(int replica, int tag) throws IndexOutOfBoundsException {
        State state = stateOf(replica);
        requireTag(tag);
        history.record(world);
        state.putTag(replica, tag);
        return state.version(replica);
    }

    public int removeTag(int replica, int tag) throws IndexOutOfBoundsException, IllegalStateException {
        State state = stateOf(replica);
        requireTag(tag);
        int removed = state.dotsOfTag(tag);
        if (removed == 0) {
            throw new IllegalStateException("the tag is not present");
        }
        history.record(world);
        state.clearTag(tag);
        return removed;
    }

    public int write(int replica, int register, int value)
            throws IndexOutOfBoundsException, IllegalArgumentException {
        State state = stateOf(replica);
        requireRegister(register);
        if (value < 0 || value > MAX_NUMBER) {
            throw new IllegalArgumentException("the value is out of range");
        }
        history.record(world);
        int replaced = state.entries(register);
        state.putEntry(replica, register, value);
        return replaced;
    }

    public boolean merge(int target, int source) throws IndexOutOfBoundsException {
        return mergeAndRecord(stateOf(target), stateOf(source));
    }

    public int mergeAll() {
        history.record(world);
        State all = allMergedOnTrial();
        int changed = 0;
        for (int replica = 0; replica < world.replicaCount; replica++) {
            State state = world.replicas[replica];
            if (!state.sameAs(all)) {
                state.copyFrom(all);
                changed++;
            }
        }
        return changed;
    }

    public int send(int replica) throws IndexOutOfBoundsException, IllegalStateException {
        requireReplica(replica);
        if (world.messageCount >= MAX_MESSAGES) {
            throw new IllegalStateException("there are too many messages");
        }
        history.record(world);
        world.addMessage(replica);
        return world.messageCount - 1;
    }

    public boolean deliver(int message, int replica) throws IndexOutOfBoundsException {
        requireMessage(message);
        return mergeAndRecord(stateOf(replica), world.messages[message]);
    }

    public int drop(int message) throws IndexOutOfBoundsException {
        requireMessage(message);
        history.record(world);
        world.removeMessage(message);
        return world.messageCount;
    }

    public int restore(int slot) throws IndexOutOfBoundsException, IllegalStateException {
        requireSlot(slot);
        World kept = saved[slot];
        if (kept == null) {
            throw new IllegalStateException("nothing is saved in the slot");
        }
        history.record(world);
        world.copyFrom(kept);
        return world.messageCount;
    }

    // ---- undo and saved states

    public int undo() throws IllegalStateException {
        if (history.count == 0) {
            throw new IllegalStateException("there is no change to undo");
        }
        world = history.exchange(world);
        return history.count;
    }

    public int save(int slot) throws IndexOutOfBoundsException {
        requireSlot(slot);
        World kept = saved[slot];
        if (kept == null) {
            kept = new World();
            saved[slot] = kept;
        }
        kept.copyFrom(world);
        return kept.messageCount;
    }

    // ---- output

    public int writeTags(int replica) throws IndexOutOfBoundsException {
        State state = stateOf(replica);
        outputLength = 0;
        for (int tag = 0; tag < TAGS; tag++) {
            int dots = state.dotsOfTag(tag);
            if (dots > 0) {
                put('a' + tag);
            }
            if (dots > 1) {
                put('!');
            }
        }
        return outputLength;
    }

    public int writeRegister(int replica, int register) throws IndexOutOfBoundsException {
        State state = stateOf(replica);
        requireRegister(register);
        outputLength = 0;
        for (int by = 0; by < MAX_REPLICAS; by++) {
            int value = state.valueBy(register, by);
            if (value != NONE) {
                putEntryValue(value);
            }
        }
        if (outputLength == 0) {
            put('-');
        }
        return outputLength;
    }

    private void putEntryValue(int value) {
        if (outputLength > 0) {
            put('|');
        }
        if (value >= 10) {
            put('0' + value / 10);
        }
        put('0' + value % 10);
    }

    private void put(int sign) {
        if (outputLength < OUTPUT_LIMIT) {
            output[outputLength] = (char) sign;
            outputLength++;
        }
    }

    public int outputByte(int index) throws IndexOutOfBoundsException {
        if (index < 0 || index >= outputLength) {
            throw new IndexOutOfBoundsException("no such byte");
        }
        return output[index];
    }

    // ---- what several calls need

    private void requireReplica(int replica) {
        if (replica < 0 || replica >= world.replicaCount) {
            throw new IndexOutOfBoundsException("no such replica");
        }
    }

    private void requireCounter(int counter) {
        if (counter < 0 || counter >= world.counterCount) {
            throw new IndexOutOfBoundsException("no such counter");
        }
    }

    private void requireTag(int tag) {
        if (tag < 0 || tag >= TAGS) {
            throw new IndexOutOfBoundsException("no such tag");
        }
    }

    private void requireRegister(int register) {
        if (register < 0 || register >= world.registerCount) {
            throw new IndexOutOfBoundsException("no such register");
        }
    }

    private void requireMessage(int message) {
        if (message < 0 || message >= world.messageCount) {
            throw new IndexOutOfBoundsException("no such message");
        }
    }

    private void requireSlot(int slot) {
        if (slot < 0 || slot >= SLOTS) {
            throw new IndexOutOfBoundsException("no such slot");
        }
    }

    private State stateOf(int replica) {
        requireReplica(replica);
        return world.replicas[replica];
    }

    private State mergedOnTrial(State target, State source) {
        trial.copyFrom(target);
        trial.absorb(source);
        return trial;
    }

    private State allMergedOnTrial() {
        trial.empty();
        for (int replica = 0; replica < world.replicaCount; replica++) {
            trial.absorb(world.replicas[replica]);
        }
        return trial;
    }

    private boolean knowsAllOf(State knowing, State asked) {
        return mergedOnTrial(knowing, asked).sameAs(knowing);
    }

    private boolean mergeAndRecord(State target, State source) {
        history.record(world);
        trial.copyFrom(target);
        target.absorb(source);
        return !target.sameAs(trial);
    }

    /** What a replica or a message knows. */
    private static final class State {
        // All parts lie in one row, in groups with a place for each replica. So a copy, a comparison and
        // a merge are one walk each, and the replica of a place is its index modulo MAX_REPLICAS.
        static final int INCREMENTS = MAX_REPLICAS;
        static final int DECREMENTS = INCREMENTS + MAX_COUNTERS * MAX_REPLICAS;
        static final int TAG_DOTS = DECREMENTS + MAX_COUNTERS * MAX_REPLICAS;
        static final int ENTRY_DOTS = TAG_DOTS + TAGS * MAX_REPLICAS;
        static final int VALUES = ENTRY_DOTS + MAX_REGISTERS * MAX_REPLICAS;
        static final int SIZE = VALUES + MAX_REGISTERS * MAX_REPLICAS;

        // A dot is held by its sequence number, 0 for none: of one tag or register, a state never has
        // two live dots of one replica, since this replica removes the older one as it makes the newer.
        private final int[] cells = new int[SIZE];

        void empty() {
            for (int i = 0; i < SIZE; i++) {
                cells[i] = 0;
            }
        }

        void copyFrom(State other) {
            System.arraycopy(other.cells, 0, cells, 0, SIZE);
        }

        boolean sameAs(State other) {
            for (int i = 0; i < SIZE; i++) {
                if (cells[i] != other.cells[i]) {
                    return false;
                }
            }
            return true;
        }

        /** Merges the source into this state; the version vector comes last, as the dots ask the old one. */
        void absorb(State source) {
            for (int i = TAG_DOTS; i < VALUES; i++) {
                absorbDot(source, i);
            }
            for (int i = 0; i < TAG_DOTS; i++) {
                cells[i] = Math.max(cells[i], source.cells[i]);
            }
        }

        private void absorbDot(State source, int i) {
            int by = i % MAX_REPLICAS;
            int mine = cells[i];
            int theirs = source.cells[i];
            if (theirs > cells[by]) {
                setDot(i, theirs, i < ENTRY_DOTS ? 0 : source.cells[i + VALUES - ENTRY_DOTS]);
            } else if (mine != theirs && mine <= source.cells[by]) {
                setDot(i, 0, 0);
            }
        }

        private void setDot(int i, int dot, int value) {
            cells[i] = dot;
            if (i >= ENTRY_DOTS) {
                cells[i + VALUES - ENTRY_DOTS] = value;
            }
        }

        /** Counts what a delta to the other state holds. */
        int newsFor(State other) {
            int count = 0;
            for (int i = 0; i < TAG_DOTS; i++) {
                if (cells[i] > other.cells[i]) {
                    count++;
                }
            }
            for (int i = TAG_DOTS; i < VALUES; i++) {
                if (cells[i] > other.cells[i % MAX_REPLICAS]) {
                    count++;
                }
            }
            return count;
        }

        int version(int replica) {
            return cells[replica];
        }

        int sum(int part, int counter, int by) {
            return cells[part + counter * MAX_REPLICAS + by];
        }

        void addToSum(int part, int counter, int by, int amount) {
            cells[part + counter * MAX_REPLICAS + by] += amount;
        }

        int total(int counter) {
            int total = 0;
            for (int by = 0; by < MAX_REPLICAS; by++) {
                total += sum(INCREMENTS, counter, by) - sum(DECREMENTS, counter, by);
            }
            return total;
        }

        int dotOfTag(int tag, int by) {
            return cells[TAG_DOTS + tag * MAX_REPLICAS + by];
        }

        int dotsOfTag(int tag) {
            return dotsFrom(TAG_DOTS + tag * MAX_REPLICAS);
        }

        int entries(int register) {
            return dotsFrom(ENTRY_DOTS + register * MAX_REPLICAS);
        }

        private int dotsFrom(int first) {
            int count = 0;
            for (int by = 0; by < MAX_REPLICAS; by++) {
                if (cells[first + by] != 0) {
                    count++;
                }
            }
            return count;
        }

        int valueBy(int register, int by) {
            int place = register * MAX_REPLICAS + by;
            return cells[ENTRY_DOTS + place] == 0 ? NONE : cells[VALUES + place];
        }

        int presentTags() {
            int count = 0;
            for (int tag = 0; tag < TAGS; tag++) {
                if (dotsOfTag(tag) > 0) {
                    count++;
                }
            }
            return count;
        }

        /** Finds a present tag by its rank, or NONE. */
        int presentTag(int rank) {
            int smaller = 0;
            for (int tag = 0; tag < TAGS; tag++) {
                if (dotsOfTag(tag) > 0) {
                    if (smaller == rank) {
                        return tag;
                    }
                    smaller++;
                }
            }
            return NONE;
        }

        int tagsMissingIn(State other) {
            int count = 0;
            for (int tag = 0; tag < TAGS; tag++) {
                if (dotsOfTag(tag) > 0 && other.dotsOfTag(tag) == 0) {
                    count++;
                }
            }
            return count;
        }

        int registersInConflict() {
            int count = 0;
            for (int register = 0; register < MAX_REGISTERS; register++) {
                if (entries(register) > 1) {
                    count++;
                }
            }
            return count;
        }

        void putTag(int replica, int tag) {
            putNewDot(TAG_DOTS + tag * MAX_REPLICAS, replica, 0);
        }

        void clearTag(int tag) {
            for (int by = 0; by < MAX_REPLICAS; by++) {
                setDot(TAG_DOTS + tag * MAX_REPLICAS + by, 0, 0);
            }
        }

        void putEntry(int replica, int register, int value) {
            putNewDot(ENTRY_DOTS + register * MAX_REPLICAS, replica, value);
        }

        private void putNewDot(int first, int replica, int value) {
            cells[replica]++;
            for (int by = 0; by < MAX_REPLICAS; by++) {
                boolean isNew = by == replica;
                setDot(first + by, isNew ? cells[replica] : 0, isNew ? value : 0);
            }
        }
    }

    /** All replicas and messages: what is saved, restored and undone as a whole. */
    private static final class World {
        // Never below 1, since means divide by it.
        int replicaCount = 1;
        int counterCount = 0;
        int registerCount = 0;
        int messageCount = 0;
        final State[] replicas = new State[MAX_REPLICAS];
        final State[] messages = new State[MAX_MESSAGES];
        final int[] senders = new int[MAX_MESSAGES];

        World() {
            for (int i = 0; i < MAX_REPLICAS; i++) {
                replicas[i] = new State();
            }
            for (int i = 0; i < MAX_MESSAGES; i++) {
                messages[i] = new State();
            }
        }

        void reset(int newReplicas, int newCounters, int newRegisters) {
            replicaCount = newReplicas;
            counterCount = newCounters;
            registerCount = newRegisters;
            messageCount = 0;
            for (int i = 0; i < MAX_REPLICAS; i++) {
                replicas[i].empty();
            }
        }

        void copyFrom(World other) {
            replicaCount = other.replicaCount;
            counterCount = other.counterCount;
            registerCount = other.registerCount;
            messageCount = other.messageCount;
            for (int i = 0; i < MAX_REPLICAS; i++) {
                replicas[i].copyFrom(other.replicas[i]);
            }
            for (int i = 0; i < MAX_MESSAGES; i++) {
                messages[i].copyFrom(other.messages[i]);
                senders[i] = other.senders[i];
            }
        }

        void addMessage(int sender) {
            if (messageCount < MAX_MESSAGES) {
                messages[messageCount].copyFrom(replicas[sender]);
                senders[messageCount] = sender;
                messageCount++;
            }
        }

        void removeMessage(int message) {
            State removed = messages[message];
            for (int i = message; i < MAX_MESSAGES - 1; i++) {
                messages[i] = messages[i + 1];
                senders[i] = senders[i + 1];
            }
            // the row is used again by a later message
            messages[MAX_MESSAGES - 1] = removed;
            messageCount--;
        }
    }

    /** The worlds before the last changes, in a ring whose rows are made when first needed. */
    private static final class History {
        private final World[] rows = new World[MAX_UNDO];
        private int next = 0;
        int count = 0;

        void forget() {
            count = 0;
        }

        void record(World world) {
            rowAt(next).copyFrom(world);
            next = (next + 1) % MAX_UNDO;
            count = Math.min(count + 1, MAX_UNDO);
        }

        /** Gives back the world before the last change and keeps the given one as a row to use again. */
        World exchange(World world) {
            next = (next + MAX_UNDO - 1) % MAX_UNDO;
            count--;
            World before = rowAt(next);
            rows[next] = world;
            return before;
        }

        private World rowAt(int index) {
            if (rows[index] == null) {
                rows[index] = new World();
            }
            return rows[index];
        }
    }

    /** Executes a description text on a world, up to its first error. */
    private static final class Parser {
        private static final int SYNTAX_ERROR = 1;
        private static final int OUT_OF_RANGE = 2;
        private static final int ABSENT_TAG = 3;
        private static final int TOO_MANY_MESSAGES = 4;

        private static final int END = 0;
        private static final int WORD = 1;
        private static final int NUMBER = 2;
        private static final int SEMICOLON = 3;
        // a token that no place allows
        private static final int MISFIT = 4;
        private static final int MAX_DIGITS = 2;

        private final char[] text;
        private final int length;
        private final World world;
        private int type = END;
        private int start = 0;
        private int end = 0;
        int errorKind = 0;
        int errorOffset = NONE;

        Parser(char[] text, int length, World world) {
            this.text = text;
            this.length = length;
            this.world = world;
        }

        void parse() {
            runFirstLine();
            boolean more = lineFollows();
            for (int line = 0; line < length && more; line++) {
                runLine();
                more = lineFollows();
            }
        }

        private void runFirstLine() {
            nextToken();
            if (!isWord("replicas")) {
                fail(SYNTAX_ERROR);
            }
            int replicas = number(1, MAX_REPLICAS);
            int counters = number(0, MAX_COUNTERS);
            int registers = number(0, MAX_REGISTERS);
            if (!failed()) {
                world.reset(replicas, counters, registers);
            }
        }

        private boolean lineFollows() {
            nextToken();
            if (type != SEMICOLON && type != END) {
                fail(SYNTAX_ERROR);
            }
            return !failed() && type == SEMICOLON;
        }

        private void runLine() {
            nextToken();
            if (isWord("inc")) {
                runCounterLine(State.INCREMENTS);
            } else if (isWord("dec")) {
                runCounterLine(State.DECREMENTS);
            } else if (isWord("add")) {
                runAdd();
            } else if (isWord("remove")) {
                runRemove();
            } else if (isWord("write")) {
                runWrite();
            } else if (isWord("merge")) {
                runMerge();
            } else if (isWord("send")) {
                runSend();
            } else if (isWord("deliver")) {
                runDeliver();
            } else {
                fail(SYNTAX_ERROR);
            }
        }

        private void runCounterLine(int part) {
            int replica = number(0, world.replicaCount - 1);
            int counter = number(0, world.counterCount - 1);
            int amount = number(1, MAX_NUMBER);
            if (!failed()) {
                world.replicas[replica].addToSum(part, counter, replica, amount);
            }
        }

        private void runAdd() {
            int replica = number(0, world.replicaCount - 1);
            int tag = tag();
            if (!failed()) {
                world.replicas[replica].putTag(replica, tag);
            }
        }

        private void runRemove() {
            int replica = number(0, world.replicaCount - 1);
            int tag = tag();
            if (failed()) {
                return;
            }
            State state = world.replicas[replica];
            if (state.dotsOfTag(tag) == 0) {
                fail(ABSENT_TAG);
            }
            state.clearTag(tag);
        }

        private void runWrite() {
            int replica = number(0, world.replicaCount - 1);
            int register = number(0, world.registerCount - 1);
            int value = number(0, MAX_NUMBER);
            if (!failed()) {
                world.replicas[replica].putEntry(replica, register, value);
            }
        }

        private void runMerge() {
            int target = number(0, world.replicaCount - 1);
            int source = number(0, world.replicaCount - 1);
            if (!failed()) {
                world.replicas[target].absorb(world.replicas[source]);
            }
        }

        private void runSend() {
            // before the number is read, since this error belongs to the word
            if (world.messageCount >= MAX_MESSAGES) {
                fail(TOO_MANY_MESSAGES);
            }
            int replica = number(0, world.replicaCount - 1);
            if (!failed()) {
                world.addMessage(replica);
            }
        }

        private void runDeliver() {
            int message = number(0, world.messageCount - 1);
            int replica = number(0, world.replicaCount - 1);
            if (!failed()) {
                world.replicas[replica].absorb(world.messages[message]);
            }
        }

        private int number(int least, int greatest) {
            nextToken();
            if (type != NUMBER) {
                fail(SYNTAX_ERROR);
                return least;
            }
            int value = 0;
            for (int i = start; i < end; i++) {
                value = value * 10 + text[i] - '0';
            }
            if (value < least || value > greatest) {
                fail(OUT_OF_RANGE);
            }
            return value;
        }

        private int tag() {
            nextToken();
            if (type != WORD || end - start != 1 || text[start] >= 'a' + TAGS) {
                fail(SYNTAX_ERROR);
                return 0;
            }
            return text[start] - 'a';
        }

        private boolean isWord(String word) {
            if (type != WORD || end - start != word.length()) {
                return false;
            }
            for (int i = 0; i < word.length(); i++) {
                if (text[start + i] != word.charAt(i)) {
                    return false;
                }
            }
            return true;
        }

        /** Reads a token; after an error the reading stands still, so that the first error is the one told. */
        private void nextToken() {
            if (failed()) {
                return;
            }
            boolean mayBeGlued = type == WORD || type == NUMBER;
            int previousEnd = end;
            start = end;
            while (start < length && isBlank(text[start])) {
                start++;
            }
            end = start;
            type = END;
            if (start < length) {
                type = typeOf(text[start]);
                end++;
            }
            boolean isRun = type == WORD || type == NUMBER;
            while (isRun && end < length && typeOf(text[end]) == type) {
                end++;
            }
            boolean isGlued = isRun && mayBeGlued && start == previousEnd;
            if (isGlued || (type == NUMBER && end - start > MAX_DIGITS)) {
                type = MISFIT;
            }
        }

        private static boolean isBlank(char sign) {
            return sign == ' ' || sign == '\n';
        }

        private static int typeOf(char sign) {
            if (sign >= 'a' && sign <= 'z') {
                return WORD;
            }
            if (sign >= '0' && sign <= '9') {
                return NUMBER;
            }
            return sign == ';' ? SEMICOLON : MISFIT;
        }

        private boolean failed() {
            return errorKind != 0;
        }

        private void fail(int kind) {
            if (!failed()) {
                errorKind = kind;
                errorOffset = start;
            }
        }
    }
}
