import java.io.IOException;
import java.lang.reflect.InvocationTargetException;
import java.lang.reflect.Method;
import java.lang.reflect.Modifier;
import java.nio.file.Files;
import java.nio.file.Path;
import java.util.regex.Matcher;
import java.util.regex.Pattern;

/** What README.md shows: the example answers what stands behind its calls, the text is sound, every call is told. */
public final class ReadmeTest {
    private static final Pattern CALL = Pattern.compile("x\\.(\\w+)\\(([^)]*)\\);\\s*// (-?\\d+)");

    public static void main(String[] args) throws IOException {
        String readme = Files.readString(Path.of("README.md"));
        example(block(readme, "```java\n"));
        Check.sound(1, block(readme, "```\nstate"));
        for (Method method : ProtocolText.class.getDeclaredMethods()) {
            if (Modifier.isPublic(method.getModifiers())) {
                Check.same(method.getName() + " is told", "true", "" + readme.contains("\n| `" + method.getName() + "("));
            }
        }
        Check.finish();
    }

    private static String block(String readme, String begin) {
        int from = readme.indexOf(begin);
        int to = readme.indexOf("\n```", from + begin.length());
        Check.same("README.md has a block", "true", "" + (from >= 0 && to > from));
        return from < 0 || to < from ? "" : readme.substring(readme.indexOf('\n', from) + 1, to + 1);
    }

    private static void example(String lines) {
        ProtocolText x = new ProtocolText();
        int calls = 0;
        for (String line : lines.split("\n")) {
            Matcher call = CALL.matcher(line);
            if (call.find()) {
                calls++;
                Check.same(line, call.group(3), answer(x, call.group(1), call.group(2)));
            } else {
                Check.same("a line without an answer", "ProtocolText x = new ProtocolText();", line);
            }
        }
        Check.same("calls were found", "true", "" + (calls > 0));
    }

    private static String answer(ProtocolText x, String name, String written) {
        String[] parts = written.isEmpty() ? new String[0] : written.split(", ");
        Class<?>[] types = new Class<?>[parts.length];
        Object[] values = new Object[parts.length];
        for (int i = 0; i < parts.length; i++) {
            types[i] = int.class;
            values[i] = Integer.decode(parts[i]);
        }
        try {
            return "" + ProtocolText.class.getMethod(name, types).invoke(x, values);
        } catch (InvocationTargetException e) {
            return "throws " + e.getCause().getClass().getSimpleName();
        } catch (ReflectiveOperationException e) {
            return e.toString();
        }
    }
}
