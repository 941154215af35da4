import java.io.IOException;
import java.lang.reflect.Method;
import java.lang.reflect.Modifier;
import java.nio.file.Files;
import java.nio.file.Path;
import java.util.Arrays;
import java.util.HashMap;
import java.util.HashSet;
import java.util.Map;
import java.util.Set;
import java.util.regex.Matcher;
import java.util.regex.Pattern;

/** The calls that README.md shows are answered as it says; it is looked for where .ci/run runs. */
public final class ReadmeTest extends Answers {
    private static final Pattern CALL =
        Pattern.compile(" {4}(?:int (\\w+) = )?x\\.(\\w+)\\(([^)]*)\\); *// (-?\\w+)(?::.*)?");

    private static final DeviceSets x = new DeviceSets();
    private static final Map<String, Long> named = new HashMap<>();
    private static final Set<String> shown = new HashSet<>();

    public static void main(String[] args) throws IOException, ReflectiveOperationException {
        about("README.md");
        for (String line : Files.readAllLines(Path.of("README.md"))) {
            Matcher call = CALL.matcher(line);
            if (call.matches()) {
                dueAsShown(call);
            } else {
                due("a line with a call and its answer: " + line, line.contains("x.") && line.startsWith("    "), false);
            }
        }
        for (Method m : DeviceSets.class.getDeclaredMethods()) {
            if (Modifier.isPublic(m.getModifiers())) {
                due("shows " + m.getName(), shown.contains(m.getName()), true);
            }
        }
        end("all calls of README.md are answered as it says");
    }

    private static void dueAsShown(Matcher call) throws ReflectiveOperationException {
        long got = answer(call.group(2), call.group(3));
        due(call.group(), got, number(call.group(4)));
        shown.add(call.group(2));
        if (call.group(1) != null) {
            named.put(call.group(1), got);
        }
    }

    private static long answer(String name, String arguments) throws ReflectiveOperationException {
        Method method = Arrays.stream(DeviceSets.class.getMethods()).filter(m -> m.getName().equals(name))
            .findFirst().orElseThrow();
        Class<?>[] types = method.getParameterTypes();
        String[] texts = arguments.isEmpty() ? new String[0] : arguments.split(", ");
        Object[] values = new Object[texts.length];
        for (int i = 0; i < texts.length; i++) {
            long value = number(texts[i]);
            values[i] = types[i] == int.class ? (Object) Math.toIntExact(value) : (Object) value;
        }
        return number(method.invoke(x, values).toString());
    }

    /** A boolean counts 1 or 0. */
    private static long number(String text) {
        if (text.equals("true") || text.equals("false")) {
            return text.equals("true") ? 1 : 0;
        }
        return named.containsKey(text) ? named.get(text) : Long.parseLong(text);
    }
}
