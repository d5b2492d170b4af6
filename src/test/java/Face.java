import java.lang.reflect.Method;
import java.lang.reflect.Modifier;
import java.util.HashMap;
import java.util.Map;
import java.util.StringJoiner;

/** The document's calls by name, on the class or on the Model: so a row of a test is a name and numbers. */
final class Face {
    private static final Map<String, Method> METHODS = new HashMap<>();

    private Face() {
    }

    /** A boolean is told as 0 or 1. */
    static long call(Object target, String name, int... args) {
        Class<?> type = target.getClass();
        Method method = METHODS.computeIfAbsent(type.getName() + "." + name, key -> find(type, name));
        Class<?>[] wanted = method.getParameterTypes();
        Object[] given = new Object[args.length];
        for (int a = 0; a < args.length; a++) {
            given[a] = wanted[a] == boolean.class ? (Object) (args[a] != 0) : (Object) args[a];
        }
        try {
            return ((Number) method.invoke(target, given)).longValue();
        } catch (ReflectiveOperationException e) {
            throw new IllegalStateException(text(name, args), e);
        }
    }

    private static Method find(Class<?> type, String name) {
        for (Method method : type.getDeclaredMethods()) {
            if (method.getName().equals(name) && !Modifier.isPrivate(method.getModifiers())) {
                return method;
            }
        }
        throw new IllegalArgumentException("no call " + name);
    }

    static String text(String name, int... args) {
        StringJoiner all = new StringJoiner(", ", name + "(", ")");
        for (int arg : args) {
            all.add(Integer.toString(arg));
        }
        return all.toString();
    }

    static void lay(Object target, int sheet, int lane, int... cells) {
        call(target, "sheet", sheet, lane, cells.length);
        for (int i = 0; i < cells.length; i++) {
            if (cells[i] != 0) {
                call(target, "put", sheet, i, cells[i]);
            }
        }
    }
}
