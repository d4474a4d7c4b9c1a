import java.io.IOException;
import java.lang.reflect.Method;
import java.lang.reflect.Modifier;
import java.nio.file.Files;
import java.nio.file.Path;
import java.util.HashSet;
import java.util.Set;
import java.util.regex.Matcher;
import java.util.regex.Pattern;

/** README.md shows each call of the face, and each shown answers what stands behind it there. */
public final class ReadmeTest {

    private static final Pattern CALL = Pattern.compile("x\\.(\\w+)\\((.*)\\);\\s*// (-?\\w+)(:.*)?");

    private static final FlowNest X = new FlowNest();
    private static final Set<String> SHOWN = new HashSet<>();

    private ReadmeTest() {
    }

    public static void main(String[] args) throws IOException, ReflectiveOperationException {
        for (String line : Files.readAllLines(Path.of("README.md"))) {
            if (line.startsWith("x.")) {
                compare(line);
            }
        }
        for (Method method : FlowNest.class.getDeclaredMethods()) {
            boolean due = method.getModifiers() == Modifier.PUBLIC;
            Check.due(method.getName() + " is shown", SHOWN.contains(method.getName()), due);
        }
        Check.end();
    }

    private static void compare(String line) throws ReflectiveOperationException {
        Matcher call = CALL.matcher(line);
        boolean read = call.matches();
        Check.due("README with a call and its answer: " + line, read, true);
        if (read) {
            Object got = methodOf(call.group(1)).invoke(X, arguments(call.group(2)));
            String want = call.group(3).equals("NONE") ? "" + FlowNest.NONE : call.group(3);
            Check.due("README as the call, which answers " + got + ": " + line, got.toString().equals(want), true);
            SHOWN.add(call.group(1));
        }
    }

    /** No two methods of the face have the same name. */
    private static Method methodOf(String name) throws NoSuchMethodException {
        for (Method method : FlowNest.class.getMethods()) {
            if (method.getName().equals(name)) {
                return method;
            }
        }
        throw new NoSuchMethodException(name);
    }

    private static Object[] arguments(String written) {
        String[] parts = written.isEmpty() ? new String[0] : written.split(", ");
        Object[] arguments = new Object[parts.length];
        for (int i = 0; i < parts.length; i++) {
            arguments[i] = argument(parts[i]);
        }
        return arguments;
    }

    private static Object argument(String part) {
        if (part.equals("true") || part.equals("false")) {
            return Boolean.valueOf(part);
        }
        if (part.endsWith("L")) {
            return Long.valueOf(part.substring(0, part.length() - 1));
        }
        return Integer.valueOf(part);
    }
}
