import java.lang.reflect.Constructor;
import java.lang.reflect.Field;
import java.lang.reflect.Member;
import java.lang.reflect.Method;
import java.lang.reflect.Modifier;
import java.util.ArrayList;
import java.util.Arrays;
import java.util.HashSet;
import java.util.List;
import java.util.Set;
import java.util.TreeSet;

/** Compares the face of the class with that of the document, to the letter. */
public final class FaceTests {
    private static final String[] FACE = {
        "OfflineNotes()",
        "int append(int,int,int,int,int) throws IllegalStateException",
        "int load(int) throws IndexOutOfBoundsException,IllegalArgumentException",
        "int errorKind()",
        "int errorOffset()",
        "int replicaCount()",
        "int counterCount()",
        "int registerCount()",
        "int versionEntry(int,int) throws IndexOutOfBoundsException",
        "boolean areEqual(int,int) throws IndexOutOfBoundsException",
        "boolean covers(int,int) throws IndexOutOfBoundsException",
        "boolean areConcurrent(int,int) throws IndexOutOfBoundsException",
        "int differentStates()",
        "int counterValue(int,int) throws IndexOutOfBoundsException",
        "int increments(int,int,int) throws IndexOutOfBoundsException",
        "int decrements(int,int,int) throws IndexOutOfBoundsException",
        "boolean hasTag(int,int) throws IndexOutOfBoundsException",
        "int liveDots(int,int) throws IndexOutOfBoundsException",
        "int tagDot(int,int,int) throws IndexOutOfBoundsException",
        "int tagCount(int) throws IndexOutOfBoundsException",
        "int tagAt(int,int) throws IndexOutOfBoundsException",
        "int entryCount(int,int) throws IndexOutOfBoundsException",
        "int entryValue(int,int,int) throws IndexOutOfBoundsException",
        "int greatestValue(int,int) throws IndexOutOfBoundsException",
        "int conflicts(int) throws IndexOutOfBoundsException",
        "int unseenDots(int,int) throws IndexOutOfBoundsException",
        "int deltaSize(int,int) throws IndexOutOfBoundsException",
        "int tagsGained(int,int) throws IndexOutOfBoundsException",
        "int tagsLost(int,int) throws IndexOutOfBoundsException",
        "int mergedValue(int) throws IndexOutOfBoundsException",
        "int mergedTags()",
        "int mergedConflicts()",
        "int convergenceErrors()",
        "double meanTags()",
        "float completeShare()",
        "int messageCount()",
        "int senderOf(int) throws IndexOutOfBoundsException",
        "boolean isNews(int,int) throws IndexOutOfBoundsException",
        "int increment(int,int,int) throws IndexOutOfBoundsException,IllegalArgumentException",
        "int decrement(int,int,int) throws IndexOutOfBoundsException,IllegalArgumentException",
        "int addTag(int,int) throws IndexOutOfBoundsException",
        "int removeTag(int,int) throws IndexOutOfBoundsException,IllegalStateException",
        "int write(int,int,int) throws IndexOutOfBoundsException,IllegalArgumentException",
        "boolean merge(int,int) throws IndexOutOfBoundsException",
        "int mergeAll()",
        "int send(int) throws IndexOutOfBoundsException,IllegalStateException",
        "boolean deliver(int,int) throws IndexOutOfBoundsException",
        "int drop(int) throws IndexOutOfBoundsException",
        "int restore(int) throws IndexOutOfBoundsException,IllegalStateException",
        "int undo() throws IllegalStateException",
        "int save(int) throws IndexOutOfBoundsException",
        "int writeTags(int) throws IndexOutOfBoundsException",
        "int writeRegister(int,int) throws IndexOutOfBoundsException",
        "int outputByte(int) throws IndexOutOfBoundsException",
    };

    private static final Checks CHECKS = new Checks("FaceTests");

    public static void main(String[] args) {
        CHECKS.equal("NONE", OfflineNotes.NONE, -1);
        CHECKS.equal("the class", Modifier.toString(OfflineNotes.class.getModifiers()), "public final");
        CHECKS.equal("the superclass", OfflineNotes.class.getSuperclass().getName(), "java.lang.Object");
        facesAreEqual();
        fieldsAreHidden();
        privateMethodsHaveNamesOfTheirOwn();
        classesInsideAreStatic();
        CHECKS.finish();
    }

    private static void facesAreEqual() {
        Set<String> found = new TreeSet<>();
        for (Method method : OfflineNotes.class.getDeclaredMethods()) {
            if (!isHidden(method)) {
                found.add(method.getReturnType().getSimpleName() + " " + method.getName()
                        + list(method.getParameterTypes(), method.getExceptionTypes()));
            }
        }
        for (Constructor<?> constructor : OfflineNotes.class.getDeclaredConstructors()) {
            if (!isHidden(constructor)) {
                found.add("OfflineNotes" + list(constructor.getParameterTypes(), constructor.getExceptionTypes()));
            }
        }
        CHECKS.equal("the face", found.toString(), new TreeSet<>(Arrays.asList(FACE)).toString());
    }

    private static boolean isHidden(Member member) {
        return Modifier.isPrivate(member.getModifiers()) || member.isSynthetic();
    }

    private static String list(Class<?>[] parameters, Class<?>[] exceptions) {
        return "(" + names(parameters) + ")" + (exceptions.length == 0 ? "" : " throws " + names(exceptions));
    }

    private static String names(Class<?>[] types) {
        List<String> names = new ArrayList<>();
        for (Class<?> type : types) {
            names.add(type.getSimpleName());
        }
        return String.join(",", names);
    }

    private static void fieldsAreHidden() {
        for (Field field : OfflineNotes.class.getDeclaredFields()) {
            boolean isNone = field.getName().equals("NONE");
            String due = isNone ? "public static final" : "private";
            CHECKS.yes("the field " + field.getName() + " is " + due,
                    Modifier.toString(field.getModifiers()).startsWith(due));
            if (Modifier.isStatic(field.getModifiers())) {
                CHECKS.yes("the static field " + field.getName() + " is final",
                        Modifier.isFinal(field.getModifiers()));
            }
        }
    }

    private static void privateMethodsHaveNamesOfTheirOwn() {
        Set<String> publicNames = new HashSet<>();
        for (Method method : OfflineNotes.class.getMethods()) {
            publicNames.add(method.getName());
        }
        List<Class<?>> classes = new ArrayList<>(List.of(OfflineNotes.class.getDeclaredClasses()));
        classes.add(OfflineNotes.class);
        for (Class<?> owner : classes) {
            for (Method method : owner.getDeclaredMethods()) {
                if (!Modifier.isPublic(method.getModifiers())) {
                    CHECKS.no("the name " + method.getName() + " bears two methods",
                            publicNames.contains(method.getName()));
                }
            }
        }
    }

    private static void classesInsideAreStatic() {
        for (Class<?> inside : OfflineNotes.class.getDeclaredClasses()) {
            int modifiers = inside.getModifiers();
            CHECKS.yes(inside.getName() + " is static", Modifier.isStatic(modifiers));
            CHECKS.no(inside.getName() + " is public", Modifier.isPublic(modifiers));
            CHECKS.no(inside.getName() + " is protected", Modifier.isProtected(modifiers));
        }
    }
}
