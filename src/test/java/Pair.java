import java.lang.reflect.InvocationTargetException;
import java.lang.reflect.Method;
import java.lang.reflect.Modifier;
import java.util.Arrays;
import java.util.LinkedHashMap;
import java.util.Map;

/** A LongNoon and a PlainNoon that are called alike; the first answer that differs is told with all that led to it. */
final class Pair {
    private static final Map<String, Method[]> METHODS = methods();

    static {
        Watch.begin();
    }

    private final LongNoon noon = new LongNoon();
    private final PlainNoon plain = new PlainNoon();
    private final StringBuilder told = new StringBuilder();
    private int calls = 0;
    private boolean differs = false;

    private static Map<String, Method[]> methods() {
        Map<String, Method[]> all = new LinkedHashMap<>();
        for (Method m : LongNoon.class.getDeclaredMethods()) {
            if (Modifier.isPublic(m.getModifiers())) {
                all.put(m.getName(), new Method[] {m, plainOf(m)});
            }
        }
        return all;
    }

    private static Method plainOf(Method m) {
        try {
            return PlainNoon.class.getMethod(m.getName(), m.getParameterTypes());
        } catch (NoSuchMethodException e) {
            throw new IllegalStateException(e);
        }
    }

    static Iterable<String> names() {
        return METHODS.keySet();
    }

    static int numbersOf(String name) {
        return METHODS.get(name)[0].getParameterCount();
    }

    int calls() {
        return calls;
    }

    boolean differs() {
        return differs;
    }

    /** Calls both; what a PlainNoon is asked beyond int's numbers is cut as Java cuts it. */
    long call(String name, long... with) {
        Method[] m = METHODS.get(name);
        Class<?>[] types = m[0].getParameterTypes();
        Object[] cast = new Object[with.length];
        for (int i = 0; i < with.length; i++) {
            cast[i] = types[i] == int.class ? (Object) (int) with[i] : (Object) with[i];
        }
        long got = answer(m[0], noon, cast);
        long due = answer(m[1], plain, cast);
        calls++;
        told.append(name).append(Arrays.toString(cast)).append(" = ").append(got).append('\n');
        if (got != due && !differs) {
            differs = true;
            System.out.println(told + "due is " + due);
        }
        return got;
    }

    private static long answer(Method m, Object of, Object[] with) {
        try {
            return ((Number) m.invoke(of, with)).longValue();
        } catch (IllegalAccessException | InvocationTargetException e) {
            throw new IllegalStateException(m.getName() + Arrays.toString(with), e);
        }
    }

    void feed(String text) {
        for (int i = 0; i < text.length(); i++) {
            call("feed", text.charAt(i));
        }
    }
}
