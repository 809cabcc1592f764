import java.lang.reflect.Constructor;
import java.lang.reflect.Field;
import java.lang.reflect.Method;
import java.lang.reflect.Modifier;
import java.util.Arrays;
import java.util.Set;
import java.util.TreeSet;

/** The public face stands as in the document, and nothing else of the class can be seen. */
public final class FaceTest {
    private static final String BOTH = " throws IllegalArgumentException, IllegalStateException";
    private static final String ARGUMENT = " throws IllegalArgumentException";
    private static final String STATE = " throws IllegalStateException";

    private static final String[] FACE = {
        "session/2" + BOTH, "make/2" + BOTH, "set/4" + BOTH, "drop/2" + BOTH, "undo/1" + BOTH,
        "redo/1" + BOTH, "lock/2" + ARGUMENT, "rule/3" + BOTH, "join/1" + BOTH,
        "conflict/2" + BOTH, "settle/2" + BOTH, "giveUp/0" + STATE, "here/2" + ARGUMENT,
        "now/3" + ARGUMENT, "there/3" + ARGUMENT, "at/3" + ARGUMENT, "since/3" + ARGUMENT,
        "told/2" + ARGUMENT, "author/1" + ARGUMENT, "count/1" + ARGUMENT, "differs/3" + ARGUMENT,
        "broken/2" + ARGUMENT,
    };
    private static final String[] CONSTANTS = {
        "NONE = -1", "LOCKED = -2", "GONE = -3", "FULL = -4", "BUSY = -5",
    };

    private static final Due due = new Due("FaceTest");

    public static void main(String[] args) throws IllegalAccessException {
        Class<?> face = ModelMerge.class;
        int modifiers = Modifier.PUBLIC | Modifier.FINAL;
        due.compare("class", Modifier.toString(modifiers), Modifier.toString(face.getModifiers()));
        due.compare("methods", sorted(FACE), methods(face).toString());
        due.compare("constants", sorted(CONSTANTS), constants(face).toString());
        due.compare("constructors", "[public ModelMerge()]", constructors(face));
        for (Class<?> inside : face.getDeclaredClasses()) {
            int seen = inside.getModifiers();
            boolean fits = Modifier.isStatic(seen)
                    && !Modifier.isPublic(seen) && !Modifier.isProtected(seen);
            due.compare(inside.getName() + " is hidden and static", "true", "" + fits);
        }
        due.end();
    }

    private static String sorted(String[] words) {
        return new TreeSet<>(Arrays.asList(words)).toString();
    }

    private static Set<String> methods(Class<?> face) {
        Set<String> found = new TreeSet<>();
        Set<String> open = new TreeSet<>();
        for (Method method : face.getDeclaredMethods()) {
            if (!Modifier.isPrivate(method.getModifiers())) {
                found.add(describe(method));
                open.add(method.getName());
            }
        }
        for (Method method : face.getDeclaredMethods()) {
            if (Modifier.isPrivate(method.getModifiers()) && open.contains(method.getName())) {
                found.add("a private " + method.getName());
            }
        }
        return found;
    }

    private static String describe(Method method) {
        StringBuilder text = new StringBuilder();
        boolean plain = method.getModifiers() == Modifier.PUBLIC
                && method.getReturnType() == int.class
                && Arrays.stream(method.getParameterTypes()).allMatch(type -> type == int.class);
        text.append(plain ? "" : "not plain: ");
        text.append(method.getName()).append('/').append(method.getParameterCount());
        String before = " throws ";
        for (Class<?> thrown : method.getExceptionTypes()) {
            text.append(before).append(thrown.getSimpleName());
            before = ", ";
        }
        return text.toString();
    }

    private static Set<String> constants(Class<?> face) throws IllegalAccessException {
        int wanted = Modifier.PUBLIC | Modifier.STATIC | Modifier.FINAL;
        Set<String> found = new TreeSet<>();
        for (Field field : face.getDeclaredFields()) {
            if (Modifier.isPrivate(field.getModifiers())) {
                continue;
            }
            boolean plain = field.getModifiers() == wanted && field.getType() == int.class;
            found.add(plain ? field.getName() + " = " + field.getInt(null) : field.toString());
        }
        return found;
    }

    private static String constructors(Class<?> face) {
        Constructor<?>[] all = face.getDeclaredConstructors();
        return Arrays.toString(all);
    }
}
