import java.io.IOException;
import java.nio.file.Files;
import java.nio.file.Path;
import java.util.ArrayList;
import java.util.List;
import java.util.regex.Pattern;

/** The document's sentences, to see that each one that names a boundary case is quoted by a test. */
final class Document {
    static final int PROMISES = 54;
    // the words by which the document names boundary cases
    private static final Pattern BOUNDARY = Pattern.compile("[0-9]|NONE|possibly|may be|more than|also if|still|replaces"
            + "|exist|at least|at most|not greater|any number|too early|only|empty|listed first|alter|smallest");
    private static final Pattern SENTENCE_END = Pattern.compile("(?<=[.:]) ");

    /** Index 0 holds what stands ahead of the promises. */
    private final List<List<String>> lines = new ArrayList<>();
    private final List<String> face = new ArrayList<>();

    Document(Path file) {
        for (int i = 0; i <= PROMISES; i++) {
            lines.add(new ArrayList<>());
        }
        readInto(file);
    }

    private void readInto(Path file) {
        int promise = 0;
        boolean code = false;
        for (String line : linesOf(file)) {
            if (line.startsWith("```")) {
                code = !code;
            } else if (code && line.startsWith("    public ")) {
                face.add(line.strip());
            } else if (line.startsWith("## Promise ")) {
                promise = Integer.parseInt(line.substring("## Promise ".length(), line.indexOf(':')));
            } else if (line.startsWith("## Not promised")) {
                return;
            } else if (!code && !line.isBlank() && !line.startsWith("#")) {
                lines.get(promise).add(line.strip());
            }
        }
    }

    static List<String> linesOf(Path file) {
        try {
            return Files.readAllLines(file);
        } catch (IOException missing) {
            throw new IllegalStateException("nothing to read at " + file.toAbsolutePath(), missing);
        }
    }

    /** The lines of the class as the document shows it, each with what it declares. */
    List<String> face() {
        return face;
    }

    boolean tells(int promise, String quoted) {
        return isIn(promise, quoted) || isIn(0, quoted);
    }

    private boolean isIn(int promise, String quoted) {
        return lines.get(promise).stream().anyMatch(line -> line.contains(quoted));
    }

    /** The sentences of a promise's own section (or, for 0, ahead of all) that a test must quote from. */
    List<String> boundaries(int promise) {
        List<String> found = new ArrayList<>();
        for (String line : lines.get(promise)) {
            String told = line.replaceFirst("^`[^`]*\\)[^`]*`: ", "");
            for (String sentence : sentences(promise, told)) {
                if (sentence.startsWith("Throws ") || BOUNDARY.matcher(sentence).find()) {
                    found.add(sentence);
                }
            }
        }
        return found;
    }

    private static String[] sentences(int promise, String line) {
        return promise == 0 && line.endsWith(".") ? SENTENCE_END.split(line) : new String[] {line};
    }
}
