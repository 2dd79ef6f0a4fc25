import java.lang.reflect.InvocationTargetException;
import java.lang.reflect.Method;
import java.util.HashMap;
import java.util.Map;

/** Calls by their names, so that the class and the oracle can be asked alike. */
final class Calls {
    /** No answer of any call is as much as these. */
    private static final long THROWN_BY_ORACLE = 4000000001L, THROWN = 4000000002L, NO_SUCH = 4000000004L;
    private static final Map<Class<?>, Map<String, Method>> KNOWN = new HashMap<>();

    private Calls() {
    }

    /** The public methods that a class has of its own, by name. */
    static Map<String, Method> of(Class<?> type) {
        return KNOWN.computeIfAbsent(type, t -> {
            Map<String, Method> all = new HashMap<>();
            for (Method m : t.getMethods()) if (m.getDeclaringClass() == t) all.put(m.getName(), m);
            return all;
        });
    }

    static long answer(Object of, String name, long... values) {
        Method m = of(of.getClass()).get(name);
        if (m == null || m.getParameterCount() != values.length) return NO_SUCH;
        Object[] all = new Object[values.length];
        for (int i = 0; i < all.length; i++) {
            if (m.getParameterTypes()[i] == long.class) all[i] = values[i];
            else all[i] = (int) values[i];
        }
        try {
            return ((Number) m.invoke(of, all)).longValue();
        } catch (InvocationTargetException e) {
            e.getCause().printStackTrace(System.out);
            return of instanceof Oracle ? THROWN_BY_ORACLE : THROWN;
        } catch (IllegalAccessException e) {
            return NO_SUCH;
        }
    }
}
