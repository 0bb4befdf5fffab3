import java.util.ArrayList;
import java.util.HashSet;
import java.util.List;
import java.util.Set;

/** Tests that each stand for one sentence of the document and belong to one promise. */
final class Sentences {
    interface Test {
        void run(Checks due);
    }

    private record Entry(int promise, String sentence, Test test) {
        String name() {
            return "promise " + promise + ", \"" + sentence + "\"";
        }
    }

    private final List<Entry> entries = new ArrayList<>();

    /** A test of a sentence, or of a part of it, in the words of the document. */
    void test(int promise, String sentence, Test test) {
        entries.add(new Entry(promise, sentence, test));
    }

    void runAll(Checks checks) {
        for (Entry entry : entries) {
            checks.yes("the test of " + entry.name(), holds(entry));
        }
    }

    /** A test of its own: what it throws fails this sentence alone, and so does a test without a check. */
    private static boolean holds(Entry entry) {
        Checks due = new Checks(entry.name());
        try {
            entry.test.run(due);
        } catch (RuntimeException thrown) {
            due.that("the test ended by " + thrown, false);
        }
        return due.allPassed();
    }

    void compareWith(Document document, Checks checks) {
        Set<String> names = new HashSet<>();
        for (Entry entry : entries) {
            checks.yes(entry.name() + " has one test", names.add(entry.name()));
            checks.yes(entry.name() + " stands in the document", document.tells(entry.promise, entry.sentence));
        }
        for (int promise = 0; promise <= Document.PROMISES; promise++) {
            for (String sentence : document.boundaries(promise)) {
                checks.yes("promise " + promise + ": a test of \"" + sentence + "\"", isQuoted(promise, sentence));
            }
        }
    }

    private boolean isQuoted(int promise, String sentence) {
        for (Entry entry : entries) {
            boolean belongs = promise == 0 || entry.promise == promise;
            if (belongs && (sentence.contains(entry.sentence) || entry.sentence.contains(sentence))) {
                return true;
            }
        }
        return false;
    }
}
