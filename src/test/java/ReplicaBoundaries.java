/** Boundaries of promises 6 to 16: numbers of things, version vectors, comparing states, counters. */
final class ReplicaBoundaries {
    private static final String NO_REPLICA = "Throws `IndexOutOfBoundsException` if one of the replicas does not exist";

    private ReplicaBoundaries() {
    }

    static void addTo(Sentences sentences) {
        addNumbers(sentences);
        addStates(sentences);
        addCounters(sentences);
    }

    private static void addNumbers(Sentences sentences) {
        sentences.test(6, "There are 1 to 4 replicas, numbered from 0.", ReplicaBoundaries::replicasFrom1To4);
        sentences.test(6, "Returns 1 to 4.", ReplicaBoundaries::replicaCounts);
        sentences.test(7, "There are 0 to 4 counters, numbered from 0.", ReplicaBoundaries::countersFrom0To4);
        sentences.test(7, "Returns 0 to 4.", ReplicaBoundaries::counterCounts);
        sentences.test(8, "There are 0 to 4 registers, numbered from 0.", ReplicaBoundaries::registersFrom0To4);
        sentences.test(8, "Returns 0 to 4.", ReplicaBoundaries::registerCounts);
    }

    private static void addStates(Sentences sentences) {
        sentences.test(9, "The entry for a replica r is the greatest sequence number of the dots of r that the state has seen",
                ReplicaBoundaries::greatestNumberIsTheEntry);
        sentences.test(9, "it is 0 at first", ReplicaBoundaries::entriesAreZeroAtFirst);
        sentences.test(9, NO_REPLICA, ReplicaBoundaries::versionEntryThrows);
        sentences.test(10, "Two states are equal if their version vectors, sums, live dots and values are equal.",
                ReplicaBoundaries::oneDifferenceIsEnough);
        sentences.test(10, "`second`: a replica, possibly the same one", ReplicaBoundaries::areEqualWithItself);
        sentences.test(10, NO_REPLICA, ReplicaBoundaries::areEqualThrows);
        sentences.test(11, "A state covers another state if merging the other state into it would change nothing.",
                ReplicaBoundaries::oneChangeIsNotCovered);
        sentences.test(11, "`second`: a replica, possibly the same one", ReplicaBoundaries::coversItself);
        sentences.test(11, NO_REPLICA, ReplicaBoundaries::coversThrows);
        sentences.test(12, "Returns true if neither state covers the other one.", ReplicaBoundaries::neitherCovers);
        sentences.test(12, "`second`: a replica, possibly the same one", ReplicaBoundaries::notConcurrentWithItself);
        sentences.test(12, NO_REPLICA, ReplicaBoundaries::areConcurrentThrows);
        sentences.test(13, "Returns 1 to the number of replicas.", ReplicaBoundaries::differentStatesFrom1On);
    }

    private static void addCounters(Sentences sentences) {
        sentences.test(14, "The value of a counter is the sum of the increments of all replicas minus the sum of the"
                + " decrements of all replicas.", ReplicaBoundaries::valueOfAllReplicas);
        sentences.test(14, "Returns the value, possibly negative.", ReplicaBoundaries::valuesAroundZero);
        sentences.test(14, "Throws `IndexOutOfBoundsException` if there is no such replica or counter",
                ReplicaBoundaries::counterValueThrows);
        sentences.test(15, "Throws `IndexOutOfBoundsException` if one of the replicas or the counter does not exist",
                ReplicaBoundaries::incrementsThrows);
        sentences.test(15, "Returns the sum of the increments that a state knows of a replica.",
                ReplicaBoundaries::incrementsFrom0On);
        sentences.test(16, "Throws `IndexOutOfBoundsException` if one of the replicas or the counter does not exist",
                ReplicaBoundaries::decrementsThrows);
        sentences.test(16, "Returns the sum of the decrements that a state knows of a replica.",
                ReplicaBoundaries::decrementsFrom0On);
    }

    // ---- numbers of things

    private static void replicasFrom1To4(Checks due) {
        due.equal("no replica", Texts.error(new Notes(), "replicas 0 1 1"), "2@9");
        due.equal("five replicas", Texts.error(new Notes(), "replicas 5 1 1"), "2@9");
        for (int count = 1; count <= 4; count++) {
            Notes notes = Worlds.empty(count, 0, 0);
            int beyond = count;
            due.equal("the first replica", notes.addTag(0, 0), 1);
            due.equal("the last of " + count, notes.addTag(count - 1, 0), count == 1 ? 2 : 1);
            due.noIndex("replica -1", () -> notes.addTag(-1, 0));
            due.noIndex("replica " + count, () -> notes.addTag(beyond, 0));
        }
    }

    private static void replicaCounts(Checks due) {
        for (int count = 1; count <= 4; count++) {
            due.equal("replicaCount", Worlds.empty(count, 4 - count, 2).replicaCount(), count);
        }
    }

    private static void countersFrom0To4(Checks due) {
        due.equal("five counters", Texts.error(new Notes(), "replicas 1 5 1"), "2@11");
        for (int count = 0; count <= 4; count++) {
            Notes notes = Worlds.empty(2, count, 1);
            int beyond = count;
            if (count > 0) {
                due.equal("the last of " + count, notes.increment(0, count - 1, 7), 7);
                due.equal("the first one", notes.counterValue(0, 0), count == 1 ? 7 : 0);
            }
            due.noIndex("counter -1", () -> notes.increment(0, -1, 7));
            due.noIndex("counter " + count, () -> notes.increment(0, beyond, 7));
        }
    }

    private static void counterCounts(Checks due) {
        for (int count = 0; count <= 4; count++) {
            due.equal("counterCount", Worlds.empty(2, count, 4 - count).counterCount(), count);
        }
    }

    private static void registersFrom0To4(Checks due) {
        due.equal("five registers", Texts.error(new Notes(), "replicas 1 1 5"), "2@13");
        for (int count = 0; count <= 4; count++) {
            Notes notes = Worlds.empty(2, 1, count);
            int beyond = count;
            if (count > 0) {
                due.equal("the last of " + count, notes.write(0, count - 1, 7), 0);
                due.equal("the first one", notes.entryCount(0, 0), count == 1 ? 1 : 0);
            }
            due.noIndex("register -1", () -> notes.write(0, -1, 7));
            due.noIndex("register " + count, () -> notes.write(0, beyond, 7));
        }
    }

    private static void registerCounts(Checks due) {
        for (int count = 0; count <= 4; count++) {
            due.equal("registerCount", Worlds.empty(2, 4 - count, count).registerCount(), count);
        }
    }

    // ---- states

    private static void greatestNumberIsTheEntry(Checks due) {
        Notes notes = Texts.loaded("replicas 4 0 1; add 3 a; add 3 a; write 3 0 1; remove 3 a; merge 0 3; add 3 b");
        due.equal("its own entry", notes.versionEntry(3, 3), 4);
        due.equal("the entry that another one has seen", notes.versionEntry(0, 3), 3);
        due.equal("the entry that is not seen", notes.versionEntry(1, 3), 0);
        due.equal("the entry of who has no dots", notes.versionEntry(0, 0), 0);
        notes.merge(3, 0);
        due.equal("the entry after a merge with a smaller one", notes.versionEntry(3, 3), 4);
    }

    private static void entriesAreZeroAtFirst(Checks due) {
        for (int count = 1; count <= 4; count++) {
            Notes notes = Worlds.empty(count, 1, 1);
            for (int replica = 0; replica < count; replica++) {
                for (int other = 0; other < count; other++) {
                    due.equal("the entry at first", notes.versionEntry(replica, other), 0);
                }
                due.equal("the first dot", notes.addTag(replica, 0), 1);
            }
        }
    }

    private static void versionEntryThrows(Checks due) {
        Refusals.replicas(due, (notes, replica) -> notes.versionEntry(replica, 0));
        Refusals.replicas(due, (notes, other) -> notes.versionEntry(0, other));
    }

    private static void oneDifferenceIsEnough(Checks due) {
        Notes version = Texts.loaded("replicas 2 0 0; add 0 a; remove 0 a");
        due.no("areEqual with another entry alone", version.areEqual(0, 1));
        Notes sum = Texts.loaded("replicas 4 4 0; inc 3 3 1");
        due.no("areEqual with another increment alone", sum.areEqual(0, 3));
        Notes less = Texts.loaded("replicas 4 4 0; dec 3 3 1");
        due.no("areEqual with another decrement alone", less.areEqual(3, 0));
        Notes dot = Texts.loaded("replicas 2 0 0; add 0 p; merge 1 0; remove 1 p");
        due.no("areEqual with another live dot of a tag alone", dot.areEqual(0, 1));
        Notes entry = Texts.loaded("replicas 4 4 4; write 3 3 0; merge 0 3; merge 1 0; add 1 a; write 0 3 0; merge 2 0");
        due.no("areEqual with another live dot of a register", entry.areEqual(3, 0));
        due.yes("areEqual with nothing else", entry.areEqual(2, 0));
        Notes empty = Worlds.empty(4, 4, 4);
        due.yes("areEqual of empty states", empty.areEqual(0, 3));
        Notes same = Texts.loaded("replicas 2 1 1; inc 0 0 5; inc 1 0 5; add 0 a; add 1 a; write 0 0 5; write 1 0 5");
        due.no("areEqual of states with the same values", same.areEqual(0, 1));
    }

    private static void areEqualWithItself(Checks due) {
        for (int replica = 0; replica < 3; replica++) {
            due.yes("areEqual with itself", new Notes().areEqual(replica, replica));
        }
    }

    private static void areEqualThrows(Checks due) {
        Refusals.replicas(due, (notes, first) -> notes.areEqual(first, 0));
        Refusals.replicas(due, (notes, second) -> notes.areEqual(0, second));
    }

    private static void oneChangeIsNotCovered(Checks due) {
        String[] changes = {"inc 3 3 1", "dec 3 3 1", "add 3 p", "remove 3 a", "write 3 3 0", "add 3 a", "add 3 b;remove 3 b"};
        for (String change : changes) {
            String text = "replicas 4 4 4;add 0 a;write 0 3 0;inc 0 0 1;merge 3 0;";
            Notes notes = Texts.loaded(text + change);
            due.no("covers before " + change, notes.covers(0, 3));
            due.yes("covers of the one with " + change, notes.covers(3, 0));
            String before = Views.everything(Texts.loaded(text + change));
            due.equal("all after the question", Views.everything(notes), before);
            Notes merged = Texts.loaded(text + change + ";merge 0 3");
            due.yes("covers after a merge of " + change, merged.covers(0, 3) && merged.covers(3, 0));
        }
        Notes empty = Worlds.empty(4, 4, 4);
        due.yes("covers of empty states", empty.covers(0, 3) && empty.covers(3, 0));
    }

    private static void coversItself(Checks due) {
        for (int replica = 0; replica < 3; replica++) {
            due.yes("covers of itself", new Notes().covers(replica, replica));
        }
    }

    private static void coversThrows(Checks due) {
        Refusals.replicas(due, (notes, first) -> notes.covers(first, 0));
        Refusals.replicas(due, (notes, second) -> notes.covers(0, second));
    }

    private static void neitherCovers(Checks due) {
        Notes notes = Texts.loaded("replicas 4 1 0; inc 0 0 1; merge 1 0; add 1 a; dec 2 0 1");
        due.no("areConcurrent if the second covers the first", notes.areConcurrent(0, 1));
        due.no("areConcurrent if the first covers the second", notes.areConcurrent(1, 0));
        due.yes("areConcurrent if neither covers", notes.areConcurrent(1, 2));
        due.yes("areConcurrent the other way round", notes.areConcurrent(2, 1));
        due.no("areConcurrent with an empty state", notes.areConcurrent(3, 2));
        notes.mergeAll();
        due.no("areConcurrent if both cover", notes.areConcurrent(1, 2));
        Notes removals = Texts.loaded("replicas 3 0 0; add 0 a; add 0 b; merge 1 0; merge 2 0; remove 1 a; remove 2 b");
        due.yes("areConcurrent by removals alone", removals.areConcurrent(1, 2));
    }

    private static void notConcurrentWithItself(Checks due) {
        for (int replica = 0; replica < 3; replica++) {
            due.no("areConcurrent with itself", new Notes().areConcurrent(replica, replica));
        }
    }

    private static void areConcurrentThrows(Checks due) {
        Refusals.replicas(due, (notes, first) -> notes.areConcurrent(first, 0));
        Refusals.replicas(due, (notes, second) -> notes.areConcurrent(0, second));
    }

    private static void differentStatesFrom1On(Checks due) {
        for (int count = 1; count <= 4; count++) {
            Notes notes = Worlds.empty(count, 1, 1);
            due.equal("differentStates of " + count + " empty ones", notes.differentStates(), 1);
            for (int replica = 0; replica < count; replica++) {
                notes.addTag(replica, 0);
                due.equal("differentStates after a change", notes.differentStates(), Math.min(replica + 2, count));
            }
            notes.mergeAll();
            due.equal("differentStates of " + count + " merged ones", notes.differentStates(), 1);
        }
        Notes pairs = Texts.loaded("replicas 4 0 0; add 0 a; merge 3 0; add 1 b; merge 2 1");
        due.equal("differentStates of two pairs", pairs.differentStates(), 2);
    }

    // ---- counters

    private static void valueOfAllReplicas(Checks due) {
        Notes notes = Texts.loaded("replicas 4 4 0; inc 0 3 1; inc 1 3 2; inc 2 3 4; inc 3 3 8; dec 0 3 16; dec 1 3 32;"
                + " dec 2 3 64; dec 3 3 99; inc 3 3 99");
        due.equal("counterValue before a merge", notes.counterValue(0, 3), 1 - 16);
        due.equal("counterValue of the last one", notes.counterValue(3, 3), 8);
        notes.mergeAll();
        for (int replica = 0; replica < 4; replica++) {
            due.equal("counterValue of all", notes.counterValue(replica, 3), 15 - 112);
            due.equal("counterValue of another counter", notes.counterValue(replica, 2), 0);
        }
        Notes crowded = Worlds.crowded();
        for (int counter = 0; counter < 4; counter++) {
            int value = 4 * (50 + 10 * counter) + 6 - 4 * (1 + 8 * counter) - 12;
            due.equal("counterValue beside others", crowded.counterValue(3, counter), value);
        }
    }

    private static void valuesAroundZero(Checks due) {
        Notes notes = Worlds.empty(1, 1, 0);
        due.equal("counterValue at first", notes.counterValue(0, 0), 0);
        notes.decrement(0, 0, 1);
        due.equal("counterValue of -1", notes.counterValue(0, 0), -1);
        notes.increment(0, 0, 1);
        due.equal("counterValue of 0", notes.counterValue(0, 0), 0);
        notes.increment(0, 0, 1);
        due.equal("counterValue of 1", notes.counterValue(0, 0), 1);
        notes.decrement(0, 0, 99);
        due.equal("counterValue of -98", notes.counterValue(0, 0), -98);
    }

    private static void counterValueThrows(Checks due) {
        Refusals.replicas(due, (notes, replica) -> notes.counterValue(replica, 0));
        Refusals.counters(due, (notes, counter) -> notes.counterValue(0, counter));
    }

    private static void incrementsThrows(Checks due) {
        Refusals.replicas(due, (notes, replica) -> notes.increments(replica, 0, 0));
        Refusals.counters(due, (notes, counter) -> notes.increments(0, counter, 0));
        Refusals.replicas(due, (notes, by) -> notes.increments(0, 0, by));
    }

    private static void incrementsFrom0On(Checks due) {
        Notes notes = Texts.loaded("replicas 4 4 0; inc 3 3 1; merge 0 3; inc 3 3 99; dec 3 3 7");
        due.equal("increments of none", notes.increments(1, 3, 3), 0);
        due.equal("increments that are known", notes.increments(0, 3, 3), 1);
        due.equal("increments of its own", notes.increments(3, 3, 3), 100);
        due.equal("increments by another", notes.increments(3, 3, 2), 0);
        due.equal("increments of another counter", notes.increments(3, 2, 3), 0);
    }

    private static void decrementsThrows(Checks due) {
        Refusals.replicas(due, (notes, replica) -> notes.decrements(replica, 0, 0));
        Refusals.counters(due, (notes, counter) -> notes.decrements(0, counter, 0));
        Refusals.replicas(due, (notes, by) -> notes.decrements(0, 0, by));
    }

    private static void decrementsFrom0On(Checks due) {
        Notes notes = Texts.loaded("replicas 4 4 0; dec 3 3 1; merge 0 3; dec 3 3 99; inc 3 3 7");
        due.equal("decrements of none", notes.decrements(1, 3, 3), 0);
        due.equal("decrements that are known", notes.decrements(0, 3, 3), 1);
        due.equal("decrements of its own", notes.decrements(3, 3, 3), 100);
        due.equal("decrements by another", notes.decrements(3, 3, 2), 0);
        due.equal("decrements of another counter", notes.decrements(3, 2, 3), 0);
    }
}
