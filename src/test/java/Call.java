import java.lang.reflect.InvocationTargetException;
import java.lang.reflect.Method;
import java.util.Map;
import java.util.Set;
import java.util.concurrent.ConcurrentHashMap;

/** One call of the face by its name, so that it can be told, asked, and played again. */
record Call(String name, int... arguments) {
    private static final Set<String> CHANGING = Set.of(
            "session", "make", "set", "drop", "undo", "redo", "lock", "rule", "join", "settle",
            "giveUp");
    private static final Map<String, Method> METHODS = new ConcurrentHashMap<>();

    boolean isChanging() {
        return CHANGING.contains(name);
    }

    // Every exception is an outcome here, so that one of the machine's is seen and counted.
    String outcome(Object model) {
        Object[] values = new Object[arguments.length];
        for (int i = 0; i < values.length; i++) {
            values[i] = arguments[i];
        }
        try {
            return method(model).invoke(model, values).toString();
        } catch (InvocationTargetException e) {
            return "throws." + e.getCause().getClass().getSimpleName();
        } catch (IllegalAccessException e) {
            throw new IllegalStateException(e);
        }
    }

    private Method method(Object model) {
        Class<?> type = model.getClass();
        return METHODS.computeIfAbsent(type.getName() + "." + name, key -> found(type));
    }

    private Method found(Class<?> type) {
        for (Method method : type.getDeclaredMethods()) {
            if (method.getName().equals(name) && method.getParameterCount() == arguments.length) {
                return method;
            }
        }
        throw new IllegalStateException("there is no call " + this);
    }

    @Override
    public String toString() {
        StringBuilder text = new StringBuilder(name).append('(');
        for (int i = 0; i < arguments.length; i++) {
            text.append(i == 0 ? "" : ", ").append(arguments[i]);
        }
        return text.append(')').toString();
    }
}
