import java.lang.reflect.Constructor;
import java.lang.reflect.Field;
import java.lang.reflect.Method;
import java.lang.reflect.Modifier;
import java.util.Arrays;
import java.util.TreeSet;

/** The class has the face of the document, no more, and no private method with a public name. */
public final class FaceTest {
    private static final String[] CONSTANTS = {
        "INVALID_ARGUMENT=-1", "NOT_POSSIBLE=-2", "LIMIT_REACHED=-3", "NOT_FOUND=-4"};
    private static final String[] METHODS = {
        "takes 3", "nameOf 2", "whoHas 2", "line 4", "drop 1", "lineOf 2", "inOrder 1", "score 2",
        "reason 2", "set 2", "count 1", "undo 0", "correct 3", "withdraw 1", "correction 2",
        "threadOf 2", "lineIn 2", "busiest 1", "answers 2", "partner 1", "awake 1", "threadsWith 2",
        "threadsWithout 1", "parting 2", "type 1", "clearText 0", "fault 1", "load 0"};

    public static void main(String[] args) throws IllegalAccessException {
        boolean good = isPublicFinal(ChatThreads.class.getModifiers())
            & same("constants", CONSTANTS, constants())
            & same("methods", METHODS, methods())
            & constructorIsAlone()
            & innerClassesAreStatic();
        System.out.println(good ? "face: as due" : "face: not as due");
        if (!good) {
            System.exit(1);
        }
    }

    private static boolean isPublicFinal(int modifiers) {
        return Modifier.isPublic(modifiers) && Modifier.isFinal(modifiers);
    }

    private static TreeSet<String> constants() throws IllegalAccessException {
        TreeSet<String> found = new TreeSet<>();
        for (Field field : ChatThreads.class.getDeclaredFields()) {
            boolean constant = Modifier.isStatic(field.getModifiers()) && Modifier.isFinal(field.getModifiers())
                && field.getType() == int.class;
            if (!Modifier.isPrivate(field.getModifiers())) {
                found.add(constant ? field.getName() + "=" + field.getInt(null) : "no constant: " + field);
            }
        }
        return found;
    }

    private static TreeSet<String> methods() {
        TreeSet<String> found = new TreeSet<>();
        for (Method method : ChatThreads.class.getDeclaredMethods()) {
            boolean ofInts = method.getReturnType() == int.class
                && Arrays.stream(method.getParameterTypes()).allMatch(type -> type == int.class);
            String name = method.getName() + " " + method.getParameterCount();
            if (Modifier.isPublic(method.getModifiers())) {
                found.add(ofInts ? name : "not of ints: " + name);
            } else if (!Modifier.isPrivate(method.getModifiers()) || isPublicName(method.getName())) {
                found.add("not private, or of a public name: " + name);
            }
        }
        return found;
    }

    private static boolean isPublicName(String name) {
        return Arrays.stream(METHODS).anyMatch(method -> method.startsWith(name + " "));
    }

    private static boolean constructorIsAlone() {
        Constructor<?>[] all = ChatThreads.class.getDeclaredConstructors();
        return all.length == 1 && Modifier.isPublic(all[0].getModifiers()) && all[0].getParameterCount() == 0;
    }

    private static boolean innerClassesAreStatic() {
        return Arrays.stream(ChatThreads.class.getDeclaredClasses())
            .allMatch(inner -> Modifier.isStatic(inner.getModifiers()) && !Modifier.isPublic(inner.getModifiers()));
    }

    private static boolean same(String what, String[] due, TreeSet<String> found) {
        TreeSet<String> wanted = new TreeSet<>(Arrays.asList(due));
        if (!wanted.equals(found)) {
            System.out.println(what + ": found " + found + ", due are " + wanted);
        }
        return wanted.equals(found);
    }
}
