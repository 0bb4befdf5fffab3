import java.nio.file.Path;

/**
 * For each sentence of the document that names a boundary case there is one test, which quotes the sentence
 * and names its promise; and the quotes are compared with the document, so that none is missing.
 */
public final class BoundaryTests {
    private BoundaryTests() {
    }

    public static void main(String[] args) {
        Checks checks = new Checks("BoundaryTests");
        Sentences sentences = all();
        sentences.runAll(checks);
        String document = args.length > 0 ? args[0] : "../shared/DOC.md";
        sentences.compareWith(new Document(Path.of(document)), checks);
        checks.finish();
    }

    static Sentences all() {
        Sentences sentences = new Sentences();
        InputBoundaries.addTo(sentences);
        TextBoundaries.addTo(sentences);
        ReplicaBoundaries.addTo(sentences);
        ContentBoundaries.addTo(sentences);
        MergingBoundaries.addTo(sentences);
        MessageBoundaries.addTo(sentences);
        ChangeBoundaries.addTo(sentences);
        HistoryBoundaries.addTo(sentences);
        OutputBoundaries.addTo(sentences);
        return sentences;
    }
}
