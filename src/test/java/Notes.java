import java.util.ArrayList;
import java.util.List;
import java.util.function.Function;

/**
 * An OfflineNotes with its calls kept: the tests make all their calls by it. What an object answers after its
 * 512th call is free, so no test may make one more; who wants to look at all of an object looks at others like it.
 */
final class Notes {
    private static final int MAX_CALLS = 512;

    private final OfflineNotes object = new OfflineNotes();
    private final List<Function<OfflineNotes, ?>> calls = new ArrayList<>();

    private <T> T call(Function<OfflineNotes, T> call) {
        if (callsLeft() == 0) {
            throw new AssertionError("a test makes more than " + MAX_CALLS + " calls on one object");
        }
        calls.add(call);
        return call.apply(object);
    }

    int callsLeft() {
        return MAX_CALLS - calls.size();
    }

    /** Another object, on which the same calls have been made. */
    Notes again() {
        Notes other = new Notes();
        for (Function<OfflineNotes, ?> call : calls) {
            other.repeat(call);
        }
        return other;
    }

    private void repeat(Function<OfflineNotes, ?> call) {
        try {
            call(call);
        } catch (RuntimeException refused) {
            // as it was at first: the test that made this call has looked at it
        }
    }

    int append(int a, int b, int c, int d, int e) {
        return call(notes -> notes.append(a, b, c, d, e));
    }

    int load(int length) {
        return call(notes -> notes.load(length));
    }

    int errorKind() {
        return call(notes -> notes.errorKind());
    }

    int errorOffset() {
        return call(notes -> notes.errorOffset());
    }

    int replicaCount() {
        return call(notes -> notes.replicaCount());
    }

    int counterCount() {
        return call(notes -> notes.counterCount());
    }

    int registerCount() {
        return call(notes -> notes.registerCount());
    }

    int versionEntry(int replica, int other) {
        return call(notes -> notes.versionEntry(replica, other));
    }

    boolean areEqual(int first, int second) {
        return call(notes -> notes.areEqual(first, second));
    }

    boolean covers(int first, int second) {
        return call(notes -> notes.covers(first, second));
    }

    boolean areConcurrent(int first, int second) {
        return call(notes -> notes.areConcurrent(first, second));
    }

    int differentStates() {
        return call(notes -> notes.differentStates());
    }

    int counterValue(int replica, int counter) {
        return call(notes -> notes.counterValue(replica, counter));
    }

    int increments(int replica, int counter, int by) {
        return call(notes -> notes.increments(replica, counter, by));
    }

    int decrements(int replica, int counter, int by) {
        return call(notes -> notes.decrements(replica, counter, by));
    }

    boolean hasTag(int replica, int tag) {
        return call(notes -> notes.hasTag(replica, tag));
    }

    int liveDots(int replica, int tag) {
        return call(notes -> notes.liveDots(replica, tag));
    }

    int tagDot(int replica, int tag, int by) {
        return call(notes -> notes.tagDot(replica, tag, by));
    }

    int tagCount(int replica) {
        return call(notes -> notes.tagCount(replica));
    }

    int tagAt(int replica, int index) {
        return call(notes -> notes.tagAt(replica, index));
    }

    int entryCount(int replica, int register) {
        return call(notes -> notes.entryCount(replica, register));
    }

    int entryValue(int replica, int register, int by) {
        return call(notes -> notes.entryValue(replica, register, by));
    }

    int greatestValue(int replica, int register) {
        return call(notes -> notes.greatestValue(replica, register));
    }

    int conflicts(int replica) {
        return call(notes -> notes.conflicts(replica));
    }

    int unseenDots(int from, int to) {
        return call(notes -> notes.unseenDots(from, to));
    }

    int deltaSize(int from, int to) {
        return call(notes -> notes.deltaSize(from, to));
    }

    int tagsGained(int target, int source) {
        return call(notes -> notes.tagsGained(target, source));
    }

    int tagsLost(int target, int source) {
        return call(notes -> notes.tagsLost(target, source));
    }

    int mergedValue(int counter) {
        return call(notes -> notes.mergedValue(counter));
    }

    int mergedTags() {
        return call(notes -> notes.mergedTags());
    }

    int mergedConflicts() {
        return call(notes -> notes.mergedConflicts());
    }

    int convergenceErrors() {
        return call(notes -> notes.convergenceErrors());
    }

    double meanTags() {
        return call(notes -> notes.meanTags());
    }

    float completeShare() {
        return call(notes -> notes.completeShare());
    }

    int messageCount() {
        return call(notes -> notes.messageCount());
    }

    int senderOf(int message) {
        return call(notes -> notes.senderOf(message));
    }

    boolean isNews(int message, int replica) {
        return call(notes -> notes.isNews(message, replica));
    }

    int increment(int replica, int counter, int amount) {
        return call(notes -> notes.increment(replica, counter, amount));
    }

    int decrement(int replica, int counter, int amount) {
        return call(notes -> notes.decrement(replica, counter, amount));
    }

    int addTag(int replica, int tag) {
        return call(notes -> notes.addTag(replica, tag));
    }

    int removeTag(int replica, int tag) {
        return call(notes -> notes.removeTag(replica, tag));
    }

    int write(int replica, int register, int value) {
        return call(notes -> notes.write(replica, register, value));
    }

    boolean merge(int target, int source) {
        return call(notes -> notes.merge(target, source));
    }

    int mergeAll() {
        return call(notes -> notes.mergeAll());
    }

    int send(int replica) {
        return call(notes -> notes.send(replica));
    }

    boolean deliver(int message, int replica) {
        return call(notes -> notes.deliver(message, replica));
    }

    int drop(int message) {
        return call(notes -> notes.drop(message));
    }

    int restore(int slot) {
        return call(notes -> notes.restore(slot));
    }

    int undo() {
        return call(notes -> notes.undo());
    }

    int save(int slot) {
        return call(notes -> notes.save(slot));
    }

    int writeTags(int replica) {
        return call(notes -> notes.writeTags(replica));
    }

    int writeRegister(int replica, int register) {
        return call(notes -> notes.writeRegister(replica, register));
    }

    int outputByte(int index) {
        return call(notes -> notes.outputByte(index));
    }
}
