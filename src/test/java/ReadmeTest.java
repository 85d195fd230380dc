import java.io.IOException;
import java.lang.reflect.Method;
import java.lang.reflect.Modifier;
import java.nio.file.Files;
import java.nio.file.Path;
import java.util.Set;
import java.util.TreeSet;
import java.util.regex.Matcher;
import java.util.regex.Pattern;

/** README.md shows each method of the face, and every call there answers what stands behind it. */
public final class ReadmeTest {
    private static final Path README = Path.of("README.md");
    private static final Pattern CALL = Pattern.compile("^bench\\.(\\w+)\\(([^)]*)\\); *// (-?\\d+)\\b.*$");

    public static void main(String[] args) throws IOException, ReflectiveOperationException {
        ReckonBench bench = new ReckonBench();
        Set<String> unshown = new TreeSet<>();
        for (Method method : ReckonBench.class.getDeclaredMethods()) {
            if (Modifier.isPublic(method.getModifiers())) {
                unshown.add(method.getName());
            }
        }
        for (String line : Files.readAllLines(README)) {
            if (!line.startsWith("bench.")) {
                continue;
            }
            Matcher call = CALL.matcher(line);
            Checks.due("a call and its answer: " + line, call.matches() ? 1 : 0, 1);
            if (call.matches()) {
                unshown.remove(call.group(1));
                Checks.due(line, answer(bench, call.group(1), call.group(2)), Long.parseLong(call.group(3)));
            }
        }
        for (String name : unshown) {
            Checks.due("shown in README.md: " + name, 0, 1);
        }
        Checks.end();
    }

    private static long answer(ReckonBench bench, String name, String told) throws ReflectiveOperationException {
        String[] texts = told.isEmpty() ? new String[0] : told.split(", ");
        for (Method method : ReckonBench.class.getDeclaredMethods()) {
            if (method.getName().equals(name) && method.getParameterCount() == texts.length) {
                return ((Number) method.invoke(bench, values(method.getParameterTypes(), texts))).longValue();
            }
        }
        throw new NoSuchMethodException(name + " of " + texts.length);
    }

    private static Object[] values(Class<?>[] types, String[] texts) {
        Object[] values = new Object[texts.length];
        for (int i = 0; i < values.length; i++) {
            String text = texts[i];
            if (types[i] == boolean.class) {
                values[i] = text.equals("true");
            } else if (types[i] == int.class) {
                values[i] = Integer.parseInt(text);
            } else {
                values[i] = Long.parseLong(text.endsWith("L") ? text.substring(0, text.length() - 1) : text);
            }
        }
        return values;
    }
}
