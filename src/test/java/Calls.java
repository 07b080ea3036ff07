import java.lang.reflect.InvocationTargetException;
import java.lang.reflect.Method;
import java.lang.reflect.Modifier;
import java.util.Map;
import java.util.TreeMap;

/** Calls of the face that are told as texts, such as join and "1, true, 3, 40". */
final class Calls {
    private static final Map<String, Method> METHODS = new TreeMap<>();

    static {
        for (Method method : Twoends.class.getDeclaredMethods()) {
            if (Modifier.isPublic(method.getModifiers())) {
                METHODS.put(method.getName(), method);
            }
        }
    }

    private Calls() {
    }

    /** The names of all methods of the face. */
    static Iterable<String> names() {
        return METHODS.keySet();
    }

    /** The method of the face of that name; null if there is none. */
    static Method method(String name) {
        return METHODS.get(name);
    }

    static Object[] values(Method method, String told) {
        String[] texts = told.isEmpty() ? new String[0] : told.split(", *");
        Class<?>[] sorts = method.getParameterTypes();
        if (texts.length != sorts.length) {
            throw new IllegalArgumentException(method + " cannot be called with " + told);
        }
        Object[] values = new Object[texts.length];
        for (int k = 0; k < values.length; k++) {
            values[k] = sorts[k] == boolean.class ? (Object) Boolean.valueOf(texts[k]) : (Object) number(texts[k]);
        }
        return values;
    }

    private static Integer number(String told) {
        if (told.equals("MIN")) {
            return Integer.MIN_VALUE;
        }
        return told.equals("MAX") ? Integer.MAX_VALUE : Integer.parseInt(told);
    }

    static String answerOf(Method method, Object of, Object[] values) {
        return Checks.answerOf(() -> call(method, of, values));
    }

    static Object call(Method method, Object of, Object[] values) {
        try {
            return method.invoke(of, values);
        } catch (InvocationTargetException e) {
            if (e.getCause() instanceof RuntimeException thrown) {
                throw thrown;
            }
            throw new IllegalStateException(e);
        } catch (IllegalAccessException e) {
            throw new IllegalStateException(e);
        }
    }
}
