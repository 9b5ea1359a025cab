import java.io.IOException;
import java.lang.reflect.Method;
import java.nio.file.Files;
import java.nio.file.Path;
import java.util.regex.Matcher;
import java.util.regex.Pattern;

/** The calls that README.md shows, one after another on one object, with the answers told behind them. */
public final class ReadmeTest {
    private static final Pattern CALL = Pattern.compile("x\\.(\\w+)\\(([^)]*)\\);(?:\\s+// (-?\\d+))?.*");

    private ReadmeTest() {
    }

    public static void main(String[] args) throws IOException, ReflectiveOperationException {
        CleaningBench x = new CleaningBench();
        int calls = 0;
        for (String line : Files.readAllLines(Path.of("README.md"))) {
            Matcher call = CALL.matcher(line);
            if (call.matches()) {
                calls++;
                Method method = named(call.group(1));
                long got = ((Number) method.invoke(x, values(method, call.group(2)))).longValue();
                if (call.group(3) != null) {
                    Due.is("README: " + line, got, Long.parseLong(call.group(3)));
                }
            }
        }
        Due.is("README shows calls", calls > 20 ? 1 : 0, 1);
        Due.end();
    }

    private static Method named(String name) throws NoSuchMethodException {
        for (Method method : CleaningBench.class.getMethods()) {
            if (method.getName().equals(name)) {
                return method;
            }
        }
        throw new NoSuchMethodException(name);
    }

    private static Object[] values(Method method, String written) {
        Class<?>[] types = method.getParameterTypes();
        String[] texts = written.isEmpty() ? new String[0] : written.split(", ");
        Object[] values = new Object[texts.length];
        for (int i = 0; i < texts.length; i++) {
            if (types[i] == boolean.class) {
                values[i] = Boolean.valueOf(texts[i]);
            } else if (types[i] == int.class) {
                values[i] = Integer.valueOf(texts[i]);
            } else {
                values[i] = Long.valueOf(texts[i]);
            }
        }
        return values;
    }
}
