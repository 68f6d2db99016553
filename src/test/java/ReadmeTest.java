import java.io.IOException;
import java.lang.reflect.InvocationTargetException;
import java.lang.reflect.Method;
import java.lang.reflect.Modifier;
import java.nio.file.Files;
import java.nio.file.Path;
import java.util.HashSet;
import java.util.Set;
import java.util.regex.Matcher;
import java.util.regex.Pattern;

/** The examples in README.md: each line of them is asked, in their order, and answers what it tells behind "//". */
public final class ReadmeTest {
    private static final String NEW = "ConfigDesk desk = new ConfigDesk();";
    private static final Pattern CALL = Pattern.compile("desk\\.(\\w+)\\(([^)]*)\\); *// (-?\\w+).*");

    public static void main(String[] args) throws IOException, IllegalAccessException {
        ConfigDesk desk = null;
        boolean isExample = false;
        Set<String> asked = new HashSet<>();
        for (String line : Files.readAllLines(Path.of("README.md"))) {
            if (line.startsWith("```")) {
                isExample = line.equals("```java");
            } else if (isExample && line.equals(NEW)) {
                desk = new ConfigDesk();
            } else if (isExample) {
                asked.add(ask(desk, line));
            }
        }
        for (Method method : ConfigDesk.class.getDeclaredMethods()) {
            if (Modifier.isPublic(method.getModifiers())) {
                Check.compare("true", "README.md tells of " + method.getName(),
                    Boolean.toString(asked.contains(method.getName())));
            }
        }
        Check.end("ReadmeTest");
    }

    /** Returns the name of the call. */
    private static String ask(ConfigDesk desk, String line) throws IllegalAccessException {
        Matcher call = CALL.matcher(line);
        if (desk == null || !call.matches()) {
            Check.compare("a call of a desk, with its answer", "README.md", line);
            return line;
        }
        Method method = methodOf(call.group(1));
        String due = method.getReturnType() == void.class ? "null" : call.group(3);
        Check.compare(due.equals("NONE") ? "-1" : due, line, answer(desk, method, call.group(2)));
        return call.group(1);
    }

    private static Method methodOf(String name) {
        for (Method method : ConfigDesk.class.getDeclaredMethods()) {
            if (method.getName().equals(name)) {
                return method;
            }
        }
        throw new IllegalStateException("README.md has a call that there is not: " + name);
    }

    private static String answer(ConfigDesk desk, Method method, String given) throws IllegalAccessException {
        String[] texts = given.isEmpty() ? new String[0] : given.split(", ");
        Object[] arguments = new Object[texts.length];
        for (int i = 0; i < texts.length; i++) {
            if (method.getParameterTypes()[i] == boolean.class) {
                arguments[i] = Boolean.valueOf(texts[i]);
            } else {
                arguments[i] = Integer.valueOf(texts[i]);
            }
        }
        try {
            return String.valueOf(method.invoke(desk, arguments));
        } catch (InvocationTargetException e) {
            return e.getCause().getClass().getSimpleName();
        }
    }
}
