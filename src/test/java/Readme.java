import java.nio.file.Path;
import java.util.ArrayList;
import java.util.List;
import java.util.regex.Matcher;
import java.util.regex.Pattern;

/** The Java examples of README.md, as a program that compares each answer with the one that is told there. */
final class Readme {
    private static final Pattern ANSWERED = Pattern.compile("(\\S.*);\\s+// (throws )?([^:]+)(: .*)?");
    private static final Pattern DECLARATION = Pattern.compile("(OfflineNotes|String) \\w+ = .*;");

    private final List<List<String>> examples = new ArrayList<>();

    Readme(Path file) {
        List<String> example = null;
        for (String line : Document.linesOf(file)) {
            if (line.equals("```java")) {
                example = new ArrayList<>();
                examples.add(example);
            } else if (line.equals("```")) {
                example = null;
            } else if (example != null) {
                example.add(line);
            }
        }
    }

    /** Prints the program. */
    public static void main(String[] args) {
        System.out.print(new Readme(Path.of(args.length > 0 ? args[0] : "README.md")).program());
    }

    boolean shows(String call) {
        return examples.stream().flatMap(List::stream).anyMatch(line -> line.contains("notes." + call + "("));
    }

    private String program() {
        StringBuilder calls = new StringBuilder();
        StringBuilder methods = new StringBuilder();
        for (int i = 0; i < examples.size(); i++) {
            List<String> example = examples.get(i);
            if (example.get(0).startsWith("static ")) {
                methods.append(String.join("\n", example)).append('\n');
            } else {
                calls.append("example").append(i).append("();\n");
                methods.append("static void example").append(i).append("() {\n").append(statements(example)).append("}\n");
            }
        }
        return "final class ReadmeExamples {\nstatic final Checks CHECKS = new Checks(\"ReadmeExamples\");\n"
                + "public static void main(String[] args) {\n" + calls + "CHECKS.finish();\n}\n" + methods + "}\n";
    }

    private static String statements(List<String> example) {
        StringBuilder statements = new StringBuilder();
        for (String line : example) {
            statements.append(DECLARATION.matcher(line).matches() ? line : check(line)).append('\n');
        }
        return statements.toString();
    }

    private static String check(String line) {
        Matcher answered = ANSWERED.matcher(line);
        if (!answered.matches()) {
            throw new IllegalStateException("README.md tells no answer of: " + line);
        }
        String call = answered.group(1);
        String name = "\"" + call.replace("\"", "'") + "\"";
        if (answered.group(2) != null) {
            return "CHECKS.fails(" + name + ", " + answered.group(3) + ".class, () -> " + call + ");";
        }
        return "CHECKS.equal(" + name + ", String.valueOf(" + call + "), \"" + answered.group(3) + "\");";
    }
}
