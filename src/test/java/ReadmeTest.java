import java.io.IOException;
import java.lang.reflect.Method;
import java.lang.reflect.Modifier;
import java.nio.file.Files;
import java.nio.file.Path;
import java.util.regex.Matcher;
import java.util.regex.Pattern;

/** README.md tells the truth: its example answers as it says, and its table has every call of the face. */
public final class ReadmeTest {
    private static final Checks CHECKS = new Checks();
    private static final Pattern EXAMPLE = Pattern.compile("x\\.(\\w+)\\((.*)\\); +// (-?\\d+)(:.*)?");
    private static final Pattern ROW = Pattern.compile("\\| `(\\w+)\\((.*?)\\)` \\|.*\\|.*\\|");

    private static int[] numbers(String text) {
        String plain = text.replace("ThreeReels.NONE", "-1").trim();
        String[] parts = plain.isEmpty() ? new String[0] : plain.split(", ");
        int[] numbers = new int[parts.length];
        for (int i = 0; i < parts.length; i++) {
            numbers[i] = Integer.parseInt(parts[i]);
        }
        return numbers;
    }

    private static long answer(ThreeReels x, String name, int[] given) throws ReflectiveOperationException {
        Class<?>[] types = new Class<?>[given.length];
        Object[] values = new Object[given.length];
        for (int i = 0; i < given.length; i++) {
            types[i] = int.class;
            values[i] = given[i];
        }
        return ((Number) ThreeReels.class.getMethod(name, types).invoke(x, values)).longValue();
    }

    private static void example(String text) throws ReflectiveOperationException {
        ThreeReels x = new ThreeReels();
        int calls = 0;
        for (String line : text.split("\n")) {
            if (line.startsWith("x.")) {
                Matcher m = EXAMPLE.matcher(line);
                CHECKS.isTrue("a call and what it answers: " + line, m.matches());
                if (m.matches()) {
                    CHECKS.due(line, answer(x, m.group(1), numbers(m.group(2))), Long.parseLong(m.group(3)));
                    calls++;
                }
            }
        }
        CHECKS.isTrue("the example has calls", calls > 0);
    }

    private static int parametersInTable(String text, String name) {
        for (String line : text.split("\n")) {
            Matcher m = ROW.matcher(line);
            if (m.matches() && m.group(1).equals(name)) {
                return m.group(2).isEmpty() ? 0 : m.group(2).split(", ").length;
            }
        }
        return -1;
    }

    private static void table(String text) {
        for (Method m : ThreeReels.class.getDeclaredMethods()) {
            if (Modifier.isPublic(m.getModifiers())) {
                CHECKS.due("parameters of " + m.getName() + " in README.md",
                    parametersInTable(text, m.getName()), m.getParameterCount());
            }
        }
    }

    public static void main(String[] args) throws IOException, ReflectiveOperationException {
        String text = Files.readString(Path.of("README.md"));
        example(text);
        table(text);
        CHECKS.finish();
    }
}
