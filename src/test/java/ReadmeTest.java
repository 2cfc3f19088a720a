import java.io.IOException;
import java.lang.reflect.Method;
import java.lang.reflect.Modifier;
import java.nio.file.Files;
import java.nio.file.Path;
import java.util.Set;
import java.util.TreeSet;
import java.util.regex.Matcher;
import java.util.regex.Pattern;

/**
 * The examples of README.md: each line in its Java fences makes a new object, or is a call on it with the answer
 * behind "//"; each public method is called in one and told in the table. Runs from the project's folder.
 */
public final class ReadmeTest {
    private static final Path README = Path.of("README.md");
    private static final String NEW_OBJECT = "StreamWire x = new StreamWire();";
    private static final Pattern CALL = Pattern.compile("x\\.(\\w+)\\(([^()]*)\\);\\s*// (-?\\d+): .+");

    private final Check check = new Check();
    private final Set<String> shown = new TreeSet<>();
    private StreamWire wire;

    public static void main(String[] args) throws IOException, ReflectiveOperationException {
        new ReadmeTest().run(Files.readString(README));
    }

    private void run(String readme) throws ReflectiveOperationException {
        boolean inFence = false;
        for (String line : readme.split("\n")) {
            if (line.startsWith("```")) {
                inFence = line.equals("```java");
                wire = null;
            } else if (inFence) {
                example(line);
            }
        }
        for (Method method : StreamWire.class.getDeclaredMethods()) {
            if (Modifier.isPublic(method.getModifiers())) {
                String name = method.getName();
                check.due("an example calls " + name, shown.contains(name) ? 1 : 0, 1);
                check.due("the table tells " + name, readme.contains("\n| `" + name + "(") ? 1 : 0, 1);
            }
        }
        check.due("REFUSED is told", readme.contains("`REFUSED` (" + StreamWire.REFUSED + ")") ? 1 : 0, 1);
        check.due("FULL is told", readme.contains("`FULL` (" + StreamWire.FULL + ")") ? 1 : 0, 1);
        check.end();
    }

    private void example(String line) throws ReflectiveOperationException {
        Matcher call = CALL.matcher(line);
        if (line.equals(NEW_OBJECT)) {
            wire = new StreamWire();
        } else if (wire != null && call.matches()) {
            shown.add(call.group(1));
            check.due(line, answer(call.group(1), call.group(2)), Long.parseLong(call.group(3)));
        } else {
            check.due("neither a new object nor a call on one with its answer: " + line, 1, 0);
        }
    }

    private long answer(String name, String arguments) throws ReflectiveOperationException {
        String[] words = arguments.split(",\\s*");
        for (Method method : StreamWire.class.getMethods()) {
            if (method.getName().equals(name) && method.getParameterCount() == words.length) {
                Object[] values = new Object[words.length];
                for (int i = 0; i < words.length; i++) {
                    values[i] = value(words[i], method.getParameterTypes()[i]);
                }
                return ((Number) method.invoke(wire, values)).longValue();
            }
        }
        throw new NoSuchMethodException(name + "(" + arguments + ")");
    }

    private static Object value(String word, Class<?> type) {
        if (type == boolean.class) {
            return Boolean.valueOf(word);
        }
        if (type == long.class) {
            return Long.decode(word.replaceFirst("L$", ""));
        }
        return Integer.decode(word);
    }
}
