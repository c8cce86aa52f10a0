import java.io.IOException;
import java.lang.reflect.InvocationTargetException;
import java.lang.reflect.Method;
import java.nio.file.Files;
import java.nio.file.Path;
import java.util.Set;
import java.util.TreeSet;
import java.util.regex.Matcher;
import java.util.regex.Pattern;

/** The README's calls, done one behind the other on one ship, answer what their comments say. */
public final class ReadmeTest {
    private static final Pattern CALL = Pattern.compile("ship\\.(\\w+)\\((.*?)\\); +// (-?\\d+|true|false)(:.*)?");

    private static Method named(String name) {
        for (Method m : StabilitySums.class.getMethods()) {
            if (m.getName().equals(name)) {
                return m;
            }
        }
        throw new IllegalArgumentException("README.md calls " + name);
    }

    private static Object argument(Class<?> type, String text) {
        if (type == boolean.class) {
            return Boolean.valueOf(text);
        }
        if (type == int.class) {
            return Integer.valueOf(text);
        }
        return Long.valueOf(text);
    }

    private static String answer(StabilitySums ship, String name, String arguments) throws IllegalAccessException {
        Method method = named(name);
        String[] texts = arguments.isEmpty() ? new String[0] : arguments.split(", ");
        Object[] all = new Object[texts.length];
        for (int i = 0; i < texts.length; i++) {
            all[i] = argument(method.getParameterTypes()[i], texts[i]);
        }
        try {
            return method.invoke(ship, all).toString();
        } catch (InvocationTargetException e) {
            return e.getCause().toString();
        }
    }

    public static void main(String[] args) throws IOException, IllegalAccessException {
        Due due = new Due();
        StabilitySums ship = new StabilitySums();
        Set<String> called = new TreeSet<>();
        for (String line : Files.readAllLines(Path.of("README.md"))) {
            Matcher call = CALL.matcher(line);
            boolean isCall = call.matches();
            due.holds("README.md, not to be read: " + line, isCall || !line.startsWith("ship."));
            if (isCall) {
                String got = answer(ship, call.group(1), call.group(2));
                called.add(call.group(1));
                due.holds("README.md: " + line + " answered " + got, got.equals(call.group(3)));
            }
        }
        due.holds("README.md calls only " + called, called.size() == 16);
        due.end();
    }
}
