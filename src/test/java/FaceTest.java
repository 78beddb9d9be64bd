import java.lang.reflect.Constructor;
import java.lang.reflect.Field;
import java.lang.reflect.Method;
import java.lang.reflect.Modifier;
import java.util.Arrays;
import java.util.Set;
import java.util.TreeSet;

/** The public face: every constant, constructor and method of the document, and no other. */
public final class FaceTest {
    private static final String[] METHODS = {
        "int account(int, int, int)", "boolean worth(int, int)", "boolean spread(int)",
        "boolean policy(int, int, int, int)", "boolean bucket(int, int, int)", "boolean learn(int, long, int)",
        "boolean forget(int, long)", "int way(long)", "int prepare(int, long, int, int, long)",
        "long lock(long)", "int fulfil(int, long)", "int reject(int)", "int advance(int)",
        "int credit(int, int, int)", "long balance(int)", "long position()", "int state(int)",
        "long transfer(int, int)", "long settlement(int)", "int drops(int)"
    };
    private static final String[] CONSTANTS = {
        "NONE", "NO_ACCOUNT", "MALFORMED", "FULL", "EXPIRED", "LARGE", "PACED", "UNREACHABLE", "BRIEF", "POOR",
        "GREAT", "PENDING", "FULFILLED", "REJECTED", "LAPSED"
    };
    private static final int[] VALUES = {-1, -1, -2, -3, -4, -5, -6, -7, -8, -9, -10, 0, 1, 2, 3};

    public static void main(String[] args) throws ReflectiveOperationException {
        Check.sentence("The public face");
        Class<?> face = ValueConnector.class;
        Check.due("the class is public and final", face.getModifiers(), Modifier.PUBLIC | Modifier.FINAL);
        constants(face);
        constructors(face);
        methods(face);
        nestedClasses(face);
        Check.finish();
    }

    private static void constants(Class<?> face) throws ReflectiveOperationException {
        for (int i = 0; i < CONSTANTS.length; i++) {
            Check.due(CONSTANTS[i], face.getField(CONSTANTS[i]).getInt(null), VALUES[i]);
        }
        Set<String> due = new TreeSet<>(Arrays.asList(CONSTANTS));
        for (Field field : face.getDeclaredFields()) {
            boolean hidden = Modifier.isPrivate(field.getModifiers()) || field.isSynthetic();
            Check.due("field " + field.getName() + " is hidden", hidden, !due.contains(field.getName()));
            if (Modifier.isStatic(field.getModifiers())) {
                Check.due("field " + field.getName() + " is final", Modifier.isFinal(field.getModifiers()), true);
            }
        }
    }

    private static void constructors(Class<?> face) throws ReflectiveOperationException {
        Constructor<?>[] all = face.getDeclaredConstructors();
        Check.due("constructors", all.length, 1);
        Check.due("it is public", face.getDeclaredConstructor(int.class, int.class).getModifiers(), Modifier.PUBLIC);
    }

    private static String headOf(Method method) {
        StringBuilder head = new StringBuilder();
        head.append(method.getReturnType().getSimpleName()).append(' ').append(method.getName()).append('(');
        String between = "";
        for (Class<?> type : method.getParameterTypes()) {
            head.append(between).append(type.getSimpleName());
            between = ", ";
        }
        return head.append(')').toString();
    }

    private static void methods(Class<?> face) {
        Set<String> due = new TreeSet<>(Arrays.asList(METHODS));
        Set<String> publicNames = new TreeSet<>();
        for (String head : METHODS) {
            publicNames.add(head.substring(head.indexOf(' ') + 1, head.indexOf('(')));
        }
        int found = 0;
        for (Method method : face.getDeclaredMethods()) {
            if (method.isSynthetic()) {
                continue;
            }
            if (due.contains(headOf(method))) {
                found++;
                Check.due(headOf(method) + " is public", method.getModifiers(), Modifier.PUBLIC);
            } else {
                Check.due(headOf(method) + " is private", Modifier.isPrivate(method.getModifiers()), true);
                Check.due(method.getName() + " is a public name", publicNames.contains(method.getName()), false);
            }
        }
        Check.due("methods of the face", found, METHODS.length);
    }

    private static void nestedClasses(Class<?> face) {
        for (Class<?> inside : face.getDeclaredClasses()) {
            int modifiers = inside.getModifiers();
            Check.due(inside.getName() + " is static", Modifier.isStatic(modifiers), true);
            boolean open = Modifier.isPublic(modifiers) || Modifier.isProtected(modifiers);
            Check.due(inside.getName() + " is open", open, false);
        }
    }
}
