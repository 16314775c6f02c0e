import java.lang.reflect.Method;
import java.lang.reflect.Modifier;
import java.util.Arrays;
import java.util.HashMap;
import java.util.Map;

/** A call that is told as it is written, "isle(2, true)", so that many of them can stand in a table. */
final class Call {
    private static final Map<String, Method> REAL = methodsOf(LakeWind.class);
    private static final Map<String, Method> TWIN = methodsOf(Twin.class);

    private final String name;
    private final Object[] arguments;

    Call(String told) {
        int open = told.indexOf('(');
        name = told.substring(0, open);
        String inside = told.substring(open + 1, told.lastIndexOf(')'));
        String[] parts = inside.isEmpty() ? new String[0] : inside.split(", ");
        arguments = new Object[parts.length];
        for (int a = 0; a < parts.length; a++) {
            arguments[a] = valueOf(parts[a]);
        }
    }

    private static Map<String, Method> methodsOf(Class<?> c) {
        Map<String, Method> all = new HashMap<>();
        for (Method m : c.getDeclaredMethods()) {
            if (!Modifier.isPrivate(m.getModifiers())) {
                all.put(m.getName(), m);
            }
        }
        return all;
    }

    private static Object valueOf(String part) {
        switch (part) {
            case "true":
                return true;
            case "false":
                return false;
            case "LEAST":
                return Integer.MIN_VALUE;
            case "MOST":
                return Integer.MAX_VALUE;
            default:
                return Integer.valueOf(part);
        }
    }

    @Override
    public String toString() {
        return name + Arrays.toString(arguments);
    }

    /** The answer of a LakeWind, or of a twin that has the same call. */
    long on(Object of) {
        try {
            return ((Number) (of instanceof Twin ? TWIN : REAL).get(name).invoke(of, arguments)).longValue();
        } catch (ReflectiveOperationException e) {
            throw new IllegalStateException(this + " threw", e);
        }
    }
}
