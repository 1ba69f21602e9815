import java.io.IOException;
import java.lang.reflect.Method;
import java.nio.file.Files;
import java.nio.file.Path;
import java.util.ArrayList;
import java.util.List;
import java.util.regex.Matcher;
import java.util.regex.Pattern;

/** The calls that README.md shows, on one object, with the answers that it tells behind them. */
public final class ReadmeTest {
    private static final Pattern CALL = Pattern.compile("x\\.(\\w+)\\((.*)\\);\\s+// (-?\\d+|true|false)\\b.*");
    private static final Pattern FEED = Pattern.compile("feed\\(x, \"(.*)\"\\)");
    private static final int CALLS_SHOWN = 30;

    /** The lines of the README's Java, all blocks of it. */
    private static List<String> shown(Path readme) throws IOException {
        List<String> lines = new ArrayList<>();
        boolean within = false;
        for (String line : Files.readAllLines(readme)) {
            if (line.startsWith("```")) {
                within = line.equals("```java");
            } else if (within) {
                lines.add(line);
            }
        }
        return lines;
    }

    private static Method named(String name) {
        for (Method m : LastLayer.class.getDeclaredMethods()) {
            if (m.getName().equals(name)) {
                return m;
            }
        }
        throw new IllegalStateException("README.md calls " + name);
    }

    private static Object argument(LastLayer x, Class<?> type, String text) {
        Matcher feed = FEED.matcher(text);
        if (feed.matches()) {
            return Due.feed(x, feed.group(1));
        }
        if (type == boolean.class) {
            return Boolean.valueOf(text);
        }
        if (type == long.class) {
            return Long.valueOf(text);
        }
        return Integer.valueOf(text);
    }

    private static String answer(LastLayer x, String name, String told) throws ReflectiveOperationException {
        Method method = named(name);
        String[] texts = told.startsWith("feed(") ? new String[] {told} : told.isEmpty() ? new String[0] : told.split(", ");
        Object[] args = new Object[texts.length];
        for (int i = 0; i < args.length; i++) {
            args[i] = argument(x, method.getParameterTypes()[i], texts[i]);
        }
        return method.invoke(x, args).toString();
    }

    public static void main(String[] args) throws IOException, ReflectiveOperationException {
        LastLayer x = new LastLayer();
        Due due = new Due("README.md");
        int calls = 0;
        for (String line : shown(Path.of("README.md"))) {
            Matcher call = CALL.matcher(line);
            if (call.matches()) {
                calls++;
                String got = answer(x, call.group(1), call.group(2));
                due.is(line + " (" + got + " came)", got.equals(call.group(3)) ? 1 : 0, 1);
            } else {
                due.is("an answer stands behind " + line, line.startsWith("x.") ? 0 : 1, 1);
            }
        }
        due.is("calls are shown", calls >= CALLS_SHOWN ? 1 : 0, 1);
        Due.end();
    }
}
