import java.lang.reflect.Method;
import java.lang.reflect.Modifier;
import java.nio.file.Path;

/** README.md shows how to use every call, and tells of every test program; its examples are run beside this. */
public final class ReadmeTests {
    private static final Checks CHECKS = new Checks("ReadmeTests");

    private ReadmeTests() {
    }

    public static void main(String[] args) {
        Path root = Path.of(args.length > 1 ? args[1] : ".");
        Path file = root.resolve("README.md");
        Readme readme = new Readme(file);
        for (Method method : OfflineNotes.class.getDeclaredMethods()) {
            if (Modifier.isPublic(method.getModifiers())) {
                CHECKS.yes("an example of " + method.getName(), readme.shows(method.getName()));
            }
        }
        String text = String.join("\n", Document.linesOf(file));
        CHECKS.yes("README.md tells how to run the tests", text.contains("\n    .ci/run\n"));
        for (String name : root.resolve("src/test/java").toFile().list()) {
            if (name.endsWith("Tests.java")) {
                String program = name.replace(".java", "");
                CHECKS.yes("README.md tells of " + program, text.contains("`" + program + "`"));
            }
        }
        CHECKS.finish();
    }
}
