import java.util.ArrayDeque;
import java.util.ArrayList;
import java.util.Deque;
import java.util.HashSet;
import java.util.List;
import java.util.Map;
import java.util.Set;
import java.util.TreeMap;
import java.util.TreeSet;
import java.util.function.Consumer;
import java.util.regex.Matcher;
import java.util.regex.Pattern;

/**
 * The document once more, written with sets of dots and the Java library, and with nothing of
 * OfflineNotes in it: a second opinion for the comparison in ModelTests.
 */
final class ReferenceNotes {
    record Dot(int replica, int number) implements Comparable<Dot> {
        public int compareTo(Dot other) {
            return replica != other.replica ? replica - other.replica : number - other.number;
        }
    }

    /** The state of one replica; as a record of collections it has the equality that the document tells. */
    record State(Map<Integer, Integer> version, Map<List<Integer>, Integer> ups, Map<List<Integer>, Integer> downs,
            Map<Integer, Set<Dot>> tags, Map<Integer, Map<Dot, Integer>> registers) {
        State() {
            this(new TreeMap<>(), new java.util.HashMap<>(), new java.util.HashMap<>(), new TreeMap<>(),
                    new TreeMap<>());
        }

        State copy() {
            State copy = new State();
            copy.version.putAll(version);
            copy.ups.putAll(ups);
            copy.downs.putAll(downs);
            tags.forEach((tag, dots) -> copy.tags.put(tag, new TreeSet<>(dots)));
            registers.forEach((register, entries) -> copy.registers.put(register, new TreeMap<>(entries)));
            return copy;
        }

        boolean hasSeen(Dot dot) {
            return dot.number <= version.getOrDefault(dot.replica, 0);
        }

        Set<Dot> dots(int tag) {
            return tags.getOrDefault(tag, Set.of());
        }

        Map<Dot, Integer> entries(int register) {
            return registers.getOrDefault(register, Map.of());
        }

        Dot newDot(int replica) {
            version.merge(replica, 1, Integer::sum);
            return new Dot(replica, version.get(replica));
        }

        void setDots(int tag, Set<Dot> dots) {
            tags.remove(tag);
            if (!dots.isEmpty()) {
                tags.put(tag, dots);
            }
        }

        void setEntries(int register, Map<Dot, Integer> entries) {
            registers.remove(register);
            if (!entries.isEmpty()) {
                registers.put(register, entries);
            }
        }

        int value(int counter) {
            return sum(ups, counter) - sum(downs, counter);
        }

        private static int sum(Map<List<Integer>, Integer> sums, int counter) {
            return sums.entrySet().stream().filter(e -> e.getKey().get(0) == counter).mapToInt(Map.Entry::getValue)
                    .sum();
        }

        State mergedWith(State source) {
            State merged = copy();
            source.ups.forEach((key, sum) -> merged.ups.merge(key, sum, Math::max));
            source.downs.forEach((key, sum) -> merged.downs.merge(key, sum, Math::max));
            for (int tag = 0; tag < 16; tag++) {
                Set<Dot> live = new TreeSet<>();
                for (Dot dot : dots(tag)) {
                    if (source.dots(tag).contains(dot) || !source.hasSeen(dot)) {
                        live.add(dot);
                    }
                }
                for (Dot dot : source.dots(tag)) {
                    if (!hasSeen(dot)) {
                        live.add(dot);
                    }
                }
                merged.setDots(tag, live);
            }
            for (int register = 0; register < 4; register++) {
                Map<Dot, Integer> live = new TreeMap<>();
                for (Map.Entry<Dot, Integer> entry : entries(register).entrySet()) {
                    if (source.entries(register).containsKey(entry.getKey()) || !source.hasSeen(entry.getKey())) {
                        live.put(entry.getKey(), entry.getValue());
                    }
                }
                for (Map.Entry<Dot, Integer> entry : source.entries(register).entrySet()) {
                    if (!hasSeen(entry.getKey())) {
                        live.put(entry.getKey(), entry.getValue());
                    }
                }
                merged.setEntries(register, live);
            }
            source.version.forEach((replica, number) -> merged.version.merge(replica, number, Math::max));
            return merged;
        }

        boolean covers(State other) {
            return mergedWith(other).equals(this);
        }

        long conflicts() {
            return registers.values().stream().filter(entries -> entries.size() > 1).count();
        }
    }

    record Message(int sender, State state) {
    }

    /** What undo, save and restore treat as one. */
    record World(List<State> replicas, List<Message> messages) {
        World copy() {
            World copy = new World(new ArrayList<>(), new ArrayList<>());
            replicas.forEach(state -> copy.replicas.add(state.copy()));
            messages.forEach(message -> copy.messages.add(new Message(message.sender, message.state.copy())));
            return copy;
        }
    }

    static final class TextError extends Exception {
        private static final long serialVersionUID = 1;
        final int kind;
        final int offset;

        TextError(int kind, int offset) {
            this.kind = kind;
            this.offset = offset;
        }
    }

    private record Token(String text, int offset, boolean glued) {
        boolean isNumber() {
            return text.matches("[0-9]{1,2}") && !glued;
        }
    }

    private static final String START = "replicas 3 2 1; inc 0 0 5; dec 1 0 2; add 0 a; add 1 b; send 0;"
            + " merge 1 0; remove 1 a; add 0 a; write 0 0 7; write 2 0 9; add 2 c";
    private static final Pattern TOKEN = Pattern.compile("[a-z]+|[0-9]+|[^ \\n]", Pattern.DOTALL);

    private World world;
    private int counters;
    private int registers;
    private final Deque<World> undoable = new ArrayDeque<>();
    private final World[] saved = new World[2];
    private String input = "";
    private String output = "";
    private int errorKind = 0;
    private int errorOffset = -1;

    ReferenceNotes() {
        try {
            run(START);
        } catch (TextError impossible) {
            throw new AssertionError(impossible);
        }
    }

    // ---- input

    int append(int a, int b, int c, int d, int e) {
        if (input.length() + 20 > 600) {
            throw new IllegalStateException();
        }
        for (int word : new int[] {a, b, c, d, e}) {
            input += "" + (char) (word >> 24 & 255) + (char) (word >> 16 & 255) + (char) (word >> 8 & 255)
                    + (char) (word & 255);
        }
        return input.length();
    }

    int load(int length) {
        index(length >= 0 && length <= input.length());
        String text = input.substring(0, length);
        input = "";
        try {
            run(text);
        } catch (TextError error) {
            errorKind = error.kind;
            errorOffset = error.offset;
            throw new IllegalArgumentException();
        }
        errorKind = 0;
        errorOffset = -1;
        undoable.clear();
        saved[0] = null;
        saved[1] = null;
        return world.replicas.size();
    }

    private void run(String text) throws TextError {
        List<Token> tokens = new ArrayList<>();
        Matcher matcher = TOKEN.matcher(text);
        while (matcher.find()) {
            int at = matcher.start();
            boolean glued = at > 0 && isWordSign(text.charAt(at)) && isWordSign(text.charAt(at - 1));
            tokens.add(new Token(matcher.group(), at, glued));
        }
        tokens.add(new Token("", text.length(), false));
        new Reader(tokens).run();
    }

    private static boolean isWordSign(char sign) {
        return sign >= 'a' && sign <= 'z' || sign >= '0' && sign <= '9';
    }

    /** Reads the tokens in their order and executes each line behind its last token. */
    private final class Reader {
        private final List<Token> tokens;
        private int next = 0;
        private World made;

        Reader(List<Token> tokens) {
            this.tokens = tokens;
        }

        void run() throws TextError {
            word("replicas");
            int[] counts = {number(1, 4), number(0, 4), number(0, 4)};
            made = new World(new ArrayList<>(), new ArrayList<>());
            for (int i = 0; i < counts[0]; i++) {
                made.replicas.add(new State());
            }
            while (!peek().text.isEmpty()) {
                word(";");
                line(counts[1], counts[2]);
            }
            world = made;
            ReferenceNotes.this.counters = counts[1];
            ReferenceNotes.this.registers = counts[2];
        }

        private void line(int counterCount, int registerCount) throws TextError {
            Token word = peek();
            next++;
            int last = made.replicas.size() - 1;
            switch (word.text) {
                case "inc", "dec" -> {
                    int replica = number(0, last);
                    List<Integer> key = List.of(number(0, counterCount - 1), replica);
                    State state = made.replicas.get(replica);
                    (word.text.equals("inc") ? state.ups : state.downs).merge(key, number(1, 99), Integer::sum);
                }
                case "add" -> {
                    int replica = number(0, last);
                    State state = made.replicas.get(replica);
                    int tag = tag(null);
                    state.setDots(tag, new TreeSet<>(Set.of(state.newDot(replica))));
                }
                case "remove" -> {
                    State state = made.replicas.get(number(0, last));
                    state.setDots(tag(state), Set.of());
                }
                case "write" -> {
                    int replica = number(0, last);
                    State state = made.replicas.get(replica);
                    int register = number(0, registerCount - 1);
                    int value = number(0, 99);
                    state.setEntries(register, new TreeMap<>(Map.of(state.newDot(replica), value)));
                }
                case "merge" -> {
                    int target = number(0, last);
                    State source = made.replicas.get(number(0, last));
                    made.replicas.set(target, made.replicas.get(target).mergedWith(source));
                }
                case "send" -> {
                    if (made.messages.size() == 6) {
                        throw new TextError(4, word.offset);
                    }
                    int sender = number(0, last);
                    made.messages.add(new Message(sender, made.replicas.get(sender).copy()));
                }
                case "deliver" -> {
                    int message = number(0, made.messages.size() - 1);
                    int replica = number(0, last);
                    made.replicas.set(replica,
                            made.replicas.get(replica).mergedWith(made.messages.get(message).state));
                }
                default -> throw new TextError(1, word.offset);
            }
        }

        private Token peek() {
            return tokens.get(Math.min(next, tokens.size() - 1));
        }

        private void word(String due) throws TextError {
            if (!peek().text.equals(due)) {
                throw new TextError(1, peek().offset);
            }
            next++;
        }

        private int number(int least, int greatest) throws TextError {
            Token token = peek();
            if (!token.isNumber()) {
                throw new TextError(1, token.offset);
            }
            int value = Integer.parseInt(token.text);
            if (value < least || value > greatest) {
                throw new TextError(2, token.offset);
            }
            next++;
            return value;
        }

        private int tag(State mustHave) throws TextError {
            Token token = peek();
            if (token.glued || !token.text.matches("[a-p]")) {
                throw new TextError(1, token.offset);
            }
            int tag = token.text.charAt(0) - 'a';
            if (mustHave != null && mustHave.dots(tag).isEmpty()) {
                throw new TextError(3, token.offset);
            }
            next++;
            return tag;
        }
    }

    int errorKind() {
        return errorKind;
    }

    int errorOffset() {
        return errorOffset;
    }

    // ---- replicas

    int replicaCount() {
        return world.replicas.size();
    }

    int counterCount() {
        return counters;
    }

    int registerCount() {
        return registers;
    }

    int versionEntry(int replica, int other) {
        index(isReplica(replica) && isReplica(other));
        return world.replicas.get(replica).version.getOrDefault(other, 0);
    }

    boolean areEqual(int first, int second) {
        index(isReplica(first) && isReplica(second));
        return world.replicas.get(first).equals(world.replicas.get(second));
    }

    boolean covers(int first, int second) {
        index(isReplica(first) && isReplica(second));
        return world.replicas.get(first).covers(world.replicas.get(second));
    }

    boolean areConcurrent(int first, int second) {
        return !covers(first, second) && !covers(second, first);
    }

    int differentStates() {
        return new HashSet<>(world.replicas).size();
    }

    // ---- counters

    int counterValue(int replica, int counter) {
        index(isReplica(replica) && isCounter(counter));
        return world.replicas.get(replica).value(counter);
    }

    int increments(int replica, int counter, int by) {
        index(isReplica(replica) && isCounter(counter) && isReplica(by));
        return world.replicas.get(replica).ups.getOrDefault(List.of(counter, by), 0);
    }

    int decrements(int replica, int counter, int by) {
        index(isReplica(replica) && isCounter(counter) && isReplica(by));
        return world.replicas.get(replica).downs.getOrDefault(List.of(counter, by), 0);
    }

    // ---- tags

    boolean hasTag(int replica, int tag) {
        index(isReplica(replica) && isTag(tag));
        return world.replicas.get(replica).tags.containsKey(tag);
    }

    int liveDots(int replica, int tag) {
        index(isReplica(replica) && isTag(tag));
        return world.replicas.get(replica).dots(tag).size();
    }

    int tagDot(int replica, int tag, int by) {
        index(isReplica(replica) && isTag(tag) && isReplica(by));
        return world.replicas.get(replica).dots(tag).stream().filter(dot -> dot.replica == by).mapToInt(Dot::number)
                .findFirst().orElse(0);
    }

    int tagCount(int replica) {
        index(isReplica(replica));
        return world.replicas.get(replica).tags.size();
    }

    int tagAt(int replica, int position) {
        index(isReplica(replica) && position >= 0 && position < tagCount(replica));
        return new ArrayList<>(world.replicas.get(replica).tags.keySet()).get(position);
    }

    // ---- registers

    int entryCount(int replica, int register) {
        index(isReplica(replica) && isRegister(register));
        return world.replicas.get(replica).entries(register).size();
    }

    int entryValue(int replica, int register, int by) {
        index(isReplica(replica) && isRegister(register) && isReplica(by));
        return world.replicas.get(replica).entries(register).entrySet().stream()
                .filter(entry -> entry.getKey().replica == by).mapToInt(Map.Entry::getValue).findFirst().orElse(-1);
    }

    int greatestValue(int replica, int register) {
        index(isReplica(replica) && isRegister(register));
        return world.replicas.get(replica).entries(register).values().stream().mapToInt(value -> value).max()
                .orElse(-1);
    }

    int conflicts(int replica) {
        index(isReplica(replica));
        return (int) world.replicas.get(replica).conflicts();
    }

    // ---- merging: nothing changes

    int unseenDots(int from, int to) {
        index(isReplica(from) && isReplica(to));
        int count = 0;
        for (Map.Entry<Integer, Integer> entry : world.replicas.get(from).version.entrySet()) {
            for (int number = 1; number <= entry.getValue(); number++) {
                count += world.replicas.get(to).hasSeen(new Dot(entry.getKey(), number)) ? 0 : 1;
            }
        }
        return count;
    }

    int deltaSize(int from, int to) {
        index(isReplica(from) && isReplica(to));
        State first = world.replicas.get(from);
        State second = world.replicas.get(to);
        return greater(first.version, second.version) + greater(first.ups, second.ups)
                + greater(first.downs, second.downs)
                + (int) first.tags.values().stream().flatMap(Set::stream).filter(dot -> !second.hasSeen(dot)).count()
                + (int) first.registers.values().stream().flatMap(entries -> entries.keySet().stream())
                        .filter(dot -> !second.hasSeen(dot)).count();
    }

    private static <K> int greater(Map<K, Integer> first, Map<K, Integer> second) {
        return (int) first.entrySet().stream().filter(e -> e.getValue() > second.getOrDefault(e.getKey(), 0)).count();
    }

    int tagsGained(int target, int source) {
        index(isReplica(target) && isReplica(source));
        State before = world.replicas.get(target);
        Set<Integer> gained = new TreeSet<>(before.mergedWith(world.replicas.get(source)).tags.keySet());
        gained.removeAll(before.tags.keySet());
        return gained.size();
    }

    int tagsLost(int target, int source) {
        index(isReplica(target) && isReplica(source));
        State before = world.replicas.get(target);
        Set<Integer> lost = new TreeSet<>(before.tags.keySet());
        lost.removeAll(before.mergedWith(world.replicas.get(source)).tags.keySet());
        return lost.size();
    }

    private State allMerged() {
        return world.replicas.stream().reduce(State::mergedWith).orElseThrow();
    }

    int mergedValue(int counter) {
        index(isCounter(counter));
        return allMerged().value(counter);
    }

    int mergedTags() {
        return allMerged().tags.size();
    }

    int mergedConflicts() {
        return (int) allMerged().conflicts();
    }

    int convergenceErrors() {
        return 0;
    }

    double meanTags() {
        double sum = 0;
        for (State state : world.replicas) {
            sum += state.tags.size();
        }
        return sum / world.replicas.size();
    }

    float completeShare() {
        float complete = 0;
        for (State state : world.replicas) {
            complete += world.replicas.stream().allMatch(state::covers) ? 1 : 0;
        }
        return complete / world.replicas.size();
    }

    // ---- messages

    int messageCount() {
        return world.messages.size();
    }

    int senderOf(int message) {
        index(isMessage(message));
        return world.messages.get(message).sender;
    }

    boolean isNews(int message, int replica) {
        index(isMessage(message) && isReplica(replica));
        return !world.replicas.get(replica).covers(world.messages.get(message).state);
    }

    // ---- changes

    private void change(Consumer<World> change) {
        undoable.addLast(world.copy());
        if (undoable.size() > 10) {
            undoable.removeFirst();
        }
        change.accept(world);
    }

    int increment(int replica, int counter, int amount) {
        index(isReplica(replica) && isCounter(counter));
        argument(amount >= 1 && amount <= 99);
        change(w -> w.replicas.get(replica).ups.merge(List.of(counter, replica), amount, Integer::sum));
        return counterValue(replica, counter);
    }

    int decrement(int replica, int counter, int amount) {
        index(isReplica(replica) && isCounter(counter));
        argument(amount >= 1 && amount <= 99);
        change(w -> w.replicas.get(replica).downs.merge(List.of(counter, replica), amount, Integer::sum));
        return counterValue(replica, counter);
    }

    int addTag(int replica, int tag) {
        index(isReplica(replica) && isTag(tag));
        change(w -> {
            State state = w.replicas.get(replica);
            state.setDots(tag, new TreeSet<>(Set.of(state.newDot(replica))));
        });
        return versionEntry(replica, replica);
    }

    int removeTag(int replica, int tag) {
        int removed = liveDots(replica, tag);
        state(removed > 0);
        change(w -> w.replicas.get(replica).setDots(tag, Set.of()));
        return removed;
    }

    int write(int replica, int register, int value) {
        int replaced = entryCount(replica, register);
        argument(value >= 0 && value <= 99);
        change(w -> {
            State state = w.replicas.get(replica);
            state.setEntries(register, new TreeMap<>(Map.of(state.newDot(replica), value)));
        });
        return replaced;
    }

    boolean merge(int target, int source) {
        boolean changes = !covers(target, source);
        change(w -> w.replicas.set(target, w.replicas.get(target).mergedWith(w.replicas.get(source))));
        return changes;
    }

    int mergeAll() {
        List<State> before = List.copyOf(world.replicas);
        change(w -> {
            for (int target = 0; target < before.size(); target++) {
                State merged = before.get(target);
                for (State source : before) {
                    merged = merged.mergedWith(source);
                }
                w.replicas.set(target, merged);
            }
        });
        int changed = 0;
        for (int i = 0; i < before.size(); i++) {
            changed += before.get(i).equals(world.replicas.get(i)) ? 0 : 1;
        }
        return changed;
    }

    int send(int replica) {
        index(isReplica(replica));
        state(world.messages.size() < 6);
        change(w -> w.messages.add(new Message(replica, w.replicas.get(replica).copy())));
        return world.messages.size() - 1;
    }

    boolean deliver(int message, int replica) {
        boolean changes = isNews(message, replica);
        change(w -> w.replicas.set(replica, w.replicas.get(replica).mergedWith(w.messages.get(message).state)));
        return changes;
    }

    int drop(int message) {
        index(isMessage(message));
        change(w -> w.messages.remove(message));
        return world.messages.size();
    }

    int restore(int slot) {
        index(slot == 0 || slot == 1);
        state(saved[slot] != null);
        change(w -> world = saved[slot].copy());
        return world.messages.size();
    }

    // ---- undo and saved states

    int undo() {
        state(!undoable.isEmpty());
        world = undoable.removeLast();
        return undoable.size();
    }

    int save(int slot) {
        index(slot == 0 || slot == 1);
        saved[slot] = world.copy();
        return world.messages.size();
    }

    // ---- output

    int writeTags(int replica) {
        index(isReplica(replica));
        output = "";
        world.replicas.get(replica).tags
                .forEach((tag, dots) -> output += (char) ('a' + tag) + (dots.size() > 1 ? "!" : ""));
        return output.length();
    }

    int writeRegister(int replica, int register) {
        index(isReplica(replica) && isRegister(register));
        List<String> values = new ArrayList<>();
        world.replicas.get(replica).entries(register).forEach((dot, value) -> values.add("" + value));
        output = values.isEmpty() ? "-" : String.join("|", values);
        return output.length();
    }

    int outputByte(int position) {
        index(position >= 0 && position < output.length());
        return output.charAt(position);
    }

    // ---- conditions

    private boolean isReplica(int number) {
        return number >= 0 && number < world.replicas.size();
    }

    private boolean isCounter(int number) {
        return number >= 0 && number < counters;
    }

    private boolean isRegister(int number) {
        return number >= 0 && number < registers;
    }

    private boolean isTag(int number) {
        return number >= 0 && number < 16;
    }

    private boolean isMessage(int number) {
        return number >= 0 && number < world.messages.size();
    }

    private static void index(boolean holds) {
        if (!holds) {
            throw new IndexOutOfBoundsException();
        }
    }

    private static void argument(boolean holds) {
        if (!holds) {
            throw new IllegalArgumentException();
        }
    }

    private static void state(boolean holds) {
        if (!holds) {
            throw new IllegalStateException();
        }
    }
}
