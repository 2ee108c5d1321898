import java.lang.reflect.Method;
import java.lang.reflect.Modifier;
import java.nio.file.Files;
import java.nio.file.Path;
import java.util.regex.Matcher;
import java.util.regex.Pattern;

/** README.md's example answers what stands behind each call, and its table names every call. */
public final class ReadmeTest extends Checks {
    private static final Pattern TEXT = Pattern.compile("String text = \"([^\"]*)\"");
    private static final Pattern CALL = Pattern.compile("nets\\.(\\w+)\\(([^)]*)\\); *// (-?\\d+)");

    private static Method method(String name) {
        for (Method m : JobNets.class.getDeclaredMethods()) {
            if (Modifier.isPublic(m.getModifiers()) && m.getName().equals(name)) {
                return m;
            }
        }
        throw new IllegalArgumentException("no call " + name);
    }

    private static long answer(JobNets x, String name, String arguments) throws ReflectiveOperationException {
        Method m = method(name);
        String[] written = arguments.isEmpty() ? new String[0] : arguments.split(", *");
        Object[] given = new Object[written.length];
        for (int i = 0; i < written.length; i++) {
            if (m.getParameterTypes()[i] == int.class) {
                given[i] = Integer.valueOf(written[i]);
            } else {
                given[i] = Long.valueOf(written[i]);
            }
        }
        return ((Number) m.invoke(x, given)).longValue();
    }

    private static void example(String readme) throws ReflectiveOperationException {
        JobNets x = new JobNets();
        Matcher text = TEXT.matcher(readme);
        due("README.md has a text", text.find() ? 1 : 0, 1);
        write(x, text.group(1));
        Matcher call = CALL.matcher(readme);
        int calls = 0;
        while (call.find()) {
            calls++;
            due(call.group(), answer(x, call.group(1), call.group(2)), Long.parseLong(call.group(3)));
        }
        due("README.md has calls", calls > 0 ? 1 : 0, 1);
    }

    private static void table(String readme) {
        for (Method m : JobNets.class.getDeclaredMethods()) {
            if (Modifier.isPublic(m.getModifiers())) {
                due("README.md tells of " + m.getName(), readme.contains("| `" + m.getName() + "(") ? 1 : 0, 1);
            }
        }
    }

    public static void main(String[] args) throws Exception {
        String readme = Files.readString(Path.of("README.md"));
        example(readme);
        table(readme);
        end();
    }
}
