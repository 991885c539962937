import java.lang.reflect.Constructor;
import java.lang.reflect.Field;
import java.lang.reflect.Method;
import java.lang.reflect.Modifier;
import java.util.ArrayList;
import java.util.List;
import java.util.TreeSet;

/** The public face, to the letter, and nothing that is seen besides. */
public final class FaceTest {
    private static final Due due = new Due();
    private static final String[] CONSTANTS = {"NONE -1", "SHIP 0", "TOWER 1", "PILOT 2", "CALLING 0",
        "JOINED 1", "SET 2", "ABOARD 3", "DONE 4", "DOES 0", "TIDE 1", "RESTS 2", "TUGS 3", "CHANNEL 4"};
    private static final String[] METHODS = {
        "void tide 2 A", "int tugs 1 A", "int ship 4 A S", "int pilot 2 A S", "int call 2 X A S",
        "int join 3 X S", "int again 1 X S", "int drop 2 X S", "int pass 1 A S", "int minute 0",
        "int level 1 A", "int window 2 X A", "int ofConference 2 X", "int why 2 X A S", "int rested 1 X",
        "int restedAnew 1 X", "int bill 1 X", "int ofPilot 2 X", "int count 1 A"};

    public static void main(String[] args) throws IllegalAccessException {
        Class<?> face = HarbourPilotline.class;
        if (!Modifier.isPublic(face.getModifiers()) || !Modifier.isFinal(face.getModifiers())) {
            due.tell("the class is public and final");
        }
        constants(face);
        methods(face);
        Constructor<?>[] constructors = face.getDeclaredConstructors();
        if (constructors.length != 1 || !Modifier.isPublic(constructors[0].getModifiers())
                || constructors[0].getParameterCount() != 0) {
            due.tell("one public constructor without parameters");
        }
        due.close();
    }

    private static void constants(Class<?> face) throws IllegalAccessException {
        List<String> seen = new ArrayList<>();
        for (Field field : face.getDeclaredFields()) {
            int is = field.getModifiers();
            if (Modifier.isStatic(is) && !Modifier.isFinal(is)) {
                due.tell(field.getName() + " is static, but not final");
            }
            if (!Modifier.isPrivate(is)) {
                seen.add(field.getName() + " " + field.getInt(null));
            }
        }
        same("constants", List.of(CONSTANTS), seen);
    }

    private static void methods(Class<?> face) {
        List<String> seen = new ArrayList<>();
        TreeSet<String> hidden = new TreeSet<>();
        collectHidden(face, hidden);
        for (Method method : face.getDeclaredMethods()) {
            if (!Modifier.isPrivate(method.getModifiers()) && !method.isSynthetic()) {
                seen.add(shape(method));
                if (hidden.contains(method.getName())) {
                    due.tell("a private method bears the name " + method.getName());
                }
            }
        }
        same("methods", List.of(METHODS), seen);
    }

    /** The names of methods that are private, or of a class inside. */
    private static void collectHidden(Class<?> face, TreeSet<String> hidden) {
        for (Method method : face.getDeclaredMethods()) {
            if (Modifier.isPrivate(method.getModifiers())) {
                hidden.add(method.getName());
            }
        }
        for (Class<?> inside : face.getDeclaredClasses()) {
            if (Modifier.isPublic(inside.getModifiers()) || Modifier.isProtected(inside.getModifiers())) {
                due.tell(inside.getName() + " is seen from outside");
            }
            for (Method method : inside.getDeclaredMethods()) {
                hidden.add(method.getName());
            }
        }
    }

    private static String shape(Method method) {
        StringBuilder text = new StringBuilder(method.getReturnType().getSimpleName());
        text.append(' ').append(method.getName()).append(' ').append(method.getParameterCount());
        for (Class<?> thrown : method.getExceptionTypes()) {
            text.append(thrown == IllegalArgumentException.class ? " A"
                    : thrown == IllegalStateException.class ? " S"
                    : thrown == IndexOutOfBoundsException.class ? " X" : " ?");
        }
        return text.toString();
    }

    private static void same(String what, List<String> want, List<String> seen) {
        if (!new TreeSet<>(want).equals(new TreeSet<>(seen))) {
            due.tell(what + " are " + new TreeSet<>(seen) + ", due are " + new TreeSet<>(want));
        }
    }
}
