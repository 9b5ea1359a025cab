import java.lang.reflect.Method;
import java.util.Arrays;
import java.util.Comparator;

/**
 * Every call with the ends of its arguments' types and the numbers next to each limit of the document,
 * two arguments at a time, on an empty, a small and a full bench; each answer is due from SlowBench.
 */
public final class WildArgumentsTest {
    private static final Integer[] INTS = {Integer.MIN_VALUE, -1, 0, 1, 2, 3, 4, 5, 6, 7, 9, 10, 11, 12, 100, 101, Integer.MAX_VALUE};
    private static final Long[] LONGS = {Long.MIN_VALUE, -1L, 0L, 1L, 5L, 65535L, Long.MAX_VALUE};
    private static final Boolean[] BOOLEANS = {false, true};
    private static final int CALLS = 300;

    private CleaningBench x;
    private SlowBench slow;
    private int made;
    private int calls;

    public static void main(String[] args) throws Exception {
        for (int size = 0; size < 3; size++) {
            for (Method method : methods()) {
                new WildArgumentsTest().all(size, method);
            }
        }
        Due.end();
    }

    private static Method[] methods() {
        Method[] all = Arrays.stream(CleaningBench.class.getDeclaredMethods())
            .filter(m -> java.lang.reflect.Modifier.isPublic(m.getModifiers())).toArray(Method[]::new);
        Arrays.sort(all, Comparator.comparing(Method::getName));
        Due.is("methods", all.length, 35);
        return all;
    }

    private static Object[] values(Class<?> type) {
        return type == int.class ? INTS : type == long.class ? LONGS : BOOLEANS;
    }

    private void all(int size, Method method) throws Exception {
        make(size);
        Class<?>[] types = method.getParameterTypes();
        if (types.length < 2) {
            for (Object v : types.length == 0 ? new Object[] {null} : values(types[0])) {
                call(size, method, types.length == 0 ? new Object[0] : new Object[] {v});
            }
        }
        for (int one = 0; one < types.length; one++) {
            for (int two = one + 1; two < types.length; two++) {
                for (Object v : values(types[one])) {
                    for (Object w : values(types[two])) {
                        Object[] arguments = usual(types);
                        arguments[one] = v;
                        arguments[two] = w;
                        call(size, method, arguments);
                    }
                }
            }
        }
        counts(method);
    }

    private static Object[] usual(Class<?>[] types) {
        Object[] all = new Object[types.length];
        for (int i = 0; i < types.length; i++) {
            all[i] = types[i] == int.class ? (Object) 0 : types[i] == long.class ? (Object) 1L : (Object) true;
        }
        return all;
    }

    private void call(int size, Method method, Object[] arguments) throws Exception {
        if (calls >= CALLS) {
            counts(method);
            make(size);
        }
        calls++;
        Method other = SlowBench.class.getDeclaredMethod(method.getName(), method.getParameterTypes());
        long got = ((Number) method.invoke(x, arguments)).longValue();
        long due = ((Number) other.invoke(slow, arguments)).longValue();
        Due.is(method.getName() + Arrays.toString(arguments) + ", size " + size, got, due);
    }

    private void counts(Method method) {
        for (int what = 0; what < 7; what++) {
            Due.is("count(" + what + ") after " + method.getName(), x.count(what), slow.count(what));
        }
    }

    private void make(int size) {
        x = new CleaningBench();
        slow = new SlowBench();
        calls = 0;
        made++;
        if (size == 0) {
            return;
        }
        int rows = size == 1 ? 3 : 12;
        for (int t = 0; t < (size == 1 ? 2 : 4); t++) {
            x.table(t, 6, 543210);
            slow.table(t, 6, 543210);
        }
        for (int r = 0; r < rows; r++) {
            x.row(r % 3 == 2 ? 1 : 0, 1 + r);
            slow.row(r % 3 == 2 ? 1 : 0, 1 + r);
            for (int c = 0; c < 5; c++) {
                x.put(r, c, r % (c + 1) * made);
                slow.put(r, c, r % (c + 1) * made);
            }
        }
        for (int l = 0; l < (size == 1 ? 4 : 10); l++) {
            x.law(l % 5, l % 2, l % 3, 4, 1 + l, 5);
            slow.law(l % 5, l % 2, l % 3, 4, 1 + l, 5);
        }
        for (int p = 0; p < (size == 1 ? 1 : 3); p++) {
            x.part(p % 2);
            slow.part(p % 2);
        }
        for (int j = 0; j < (size == 1 ? 1 : 6); j++) {
            int q = size == 1 ? 0 : j % 3;
            x.join(0, j, q, j);
            slow.join(0, j, q, j);
        }
    }
}
