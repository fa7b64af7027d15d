import java.lang.reflect.InvocationTargetException;
import java.lang.reflect.Method;
import java.lang.reflect.Modifier;
import java.util.Arrays;
import java.util.HashMap;
import java.util.Map;

/** A new RedTent (or PlainTent) that is asked by the names of its calls, and no oftener than the document promises. */
final class Asked {
    static final int PROMISED = 512;
    private static final Map<String, Method> FACE = face(RedTent.class, null);
    private static final Map<String, Method> PLAIN = face(PlainTent.class, FACE);

    private final Object x;
    private final Map<String, Method> names;
    private int calls;

    Asked() {
        this(new RedTent(), FACE);
    }

    private Asked(Object x, Map<String, Method> names) {
        this.x = x;
        this.names = names;
    }

    static Asked plain() {
        return new Asked(new PlainTent(), PLAIN);
    }

    private static Map<String, Method> face(Class<?> asked, Map<String, Method> like) {
        Map<String, Method> all = new HashMap<>();
        for (Method m : asked.getDeclaredMethods()) {
            if (like == null ? Modifier.isPublic(m.getModifiers()) : isLike(m, like.get(m.getName()))) {
                all.put(m.getName(), m);
            }
        }
        return all;
    }

    private static boolean isLike(Method m, Method other) {
        return other != null && Arrays.equals(m.getParameterTypes(), other.getParameterTypes());
    }

    /** The types of what a call is given. */
    static Class<?>[] takes(String name) {
        return FACE.get(name).getParameterTypes();
    }

    long ask(String name, long... args) {
        Method m = names.get(name);
        if (m == null || m.getParameterCount() != args.length || ++calls > PROMISED) {
            throw new IllegalStateException("a test asks " + name + " with " + args.length + " numbers, as call " + calls);
        }
        Object[] given = new Object[args.length];
        for (int k = 0; k < args.length; k++) {
            given[k] = m.getParameterTypes()[k] == int.class ? (Object) Math.toIntExact(args[k]) : (Object) args[k];
        }
        try {
            return ((Number) m.invoke(x, given)).longValue();
        } catch (InvocationTargetException e) {
            throw new IllegalStateException(name + " threw", e.getCause());
        } catch (IllegalAccessException e) {
            throw new IllegalStateException(e);
        }
    }

    int has(int what) {
        return (int) ask("count", what);
    }
}
