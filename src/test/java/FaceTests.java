import java.lang.reflect.Constructor;
import java.lang.reflect.Field;
import java.lang.reflect.Member;
import java.lang.reflect.Method;
import java.lang.reflect.Modifier;
import java.nio.file.Path;
import java.util.ArrayList;
import java.util.HashSet;
import java.util.List;
import java.util.Set;
import java.util.TreeSet;

/** Compares the face of the class with that of the document, to the letter. */
public final class FaceTests {
    private static final Checks CHECKS = new Checks("FaceTests");

    public static void main(String[] args) {
        Document document = new Document(Path.of(args.length > 0 ? args[0] : "../shared/DOC.md"));
        CHECKS.equal("NONE", OfflineNotes.NONE, -1);
        CHECKS.equal("the class", Modifier.toString(OfflineNotes.class.getModifiers()), "public final");
        CHECKS.equal("the superclass", OfflineNotes.class.getSuperclass().getName(), "java.lang.Object");
        facesAreEqual(document);
        fieldsAreHidden();
        privateMethodsHaveNamesOfTheirOwn();
        classesInsideAreStatic();
        CHECKS.finish();
    }

    private static void facesAreEqual(Document document) {
        Set<String> due = new TreeSet<>();
        for (String line : document.face()) {
            if (line.contains("(")) {
                due.add(withoutNames(line));
            }
        }
        CHECKS.equal("the calls of the face", due.size(), Document.PROMISES);
        Set<String> found = new TreeSet<>();
        for (Method method : OfflineNotes.class.getDeclaredMethods()) {
            if (!isHidden(method)) {
                found.add(method.getReturnType().getSimpleName() + " " + method.getName()
                        + list(method.getParameterTypes(), method.getExceptionTypes()));
            }
        }
        for (Constructor<?> constructor : OfflineNotes.class.getDeclaredConstructors()) {
            if (!isHidden(constructor)) {
                found.add("OfflineNotes" + list(constructor.getParameterTypes(), constructor.getExceptionTypes()));
            }
        }
        CHECKS.equal("the face", found.toString(), due.toString());
    }

    /** A line of the document's face, without "public" and the names of its parameters. */
    private static String withoutNames(String line) {
        return line.replace("public ", "").replaceAll("(int|boolean|double|float) \\w+(?=[,)])", "$1").replace(", ", ",")
                .replace(";", "");
    }

    private static boolean isHidden(Member member) {
        return Modifier.isPrivate(member.getModifiers()) || member.isSynthetic();
    }

    private static String list(Class<?>[] parameters, Class<?>[] exceptions) {
        return "(" + names(parameters) + ")" + (exceptions.length == 0 ? "" : " throws " + names(exceptions));
    }

    private static String names(Class<?>[] types) {
        List<String> names = new ArrayList<>();
        for (Class<?> type : types) {
            names.add(type.getSimpleName());
        }
        return String.join(",", names);
    }

    private static void fieldsAreHidden() {
        for (Field field : OfflineNotes.class.getDeclaredFields()) {
            boolean isNone = field.getName().equals("NONE");
            String due = isNone ? "public static final" : "private";
            CHECKS.yes("the field " + field.getName() + " is " + due,
                    Modifier.toString(field.getModifiers()).startsWith(due));
            if (Modifier.isStatic(field.getModifiers())) {
                CHECKS.yes("the static field " + field.getName() + " is final",
                        Modifier.isFinal(field.getModifiers()));
            }
        }
    }

    private static void privateMethodsHaveNamesOfTheirOwn() {
        Set<String> publicNames = new HashSet<>();
        for (Method method : OfflineNotes.class.getMethods()) {
            publicNames.add(method.getName());
        }
        List<Class<?>> classes = new ArrayList<>(List.of(OfflineNotes.class.getDeclaredClasses()));
        classes.add(OfflineNotes.class);
        for (Class<?> owner : classes) {
            for (Method method : owner.getDeclaredMethods()) {
                if (!Modifier.isPublic(method.getModifiers())) {
                    CHECKS.no("the name " + method.getName() + " bears two methods",
                            publicNames.contains(method.getName()));
                }
            }
        }
    }

    private static void classesInsideAreStatic() {
        for (Class<?> inside : OfflineNotes.class.getDeclaredClasses()) {
            int modifiers = inside.getModifiers();
            CHECKS.yes(inside.getName() + " is static", Modifier.isStatic(modifiers));
            CHECKS.no(inside.getName() + " is public", Modifier.isPublic(modifiers));
            CHECKS.no(inside.getName() + " is protected", Modifier.isProtected(modifiers));
        }
    }
}
