import java.io.IOException;
import java.lang.reflect.InvocationTargetException;
import java.lang.reflect.Method;
import java.lang.reflect.Modifier;
import java.nio.file.DirectoryStream;
import java.nio.file.Files;
import java.nio.file.Path;
import java.util.ArrayList;
import java.util.HashMap;
import java.util.List;
import java.util.Map;
import java.util.regex.Matcher;
import java.util.regex.Pattern;

/** What README.md says is right: its calls answer what stands behind them, and it names all there is. */
public final class ReadmeTest {
    private static final String START = "PickSlots warehouse = new PickSlots();";
    private static final Pattern CALL = Pattern.compile(
            "(?:int (\\w+) = )?warehouse\\.(\\w+)\\(([^)]*)\\); +// (-?\\d+)(?:: .*)?");
    private static final Pattern ROW = Pattern.compile("\\| `(\\w+)` \\| (-?\\d+) \\|.*");
    private static final Pattern TEST_ROW = Pattern.compile("\\| `(\\w+Test)` \\|.*");

    private static final Path TESTS = Path.of("src/test/java");

    private static PickSlots warehouse = new PickSlots();
    private static final Map<String, Integer> NAMES = new HashMap<>();

    public static void main(String[] args) throws IOException, ReflectiveOperationException {
        List<String> lines = Files.readAllLines(Path.of("README.md"));
        examplesAnswerSo(lines);
        constantsAreSo(lines);
        everyCallIsNamed(String.join("\n", lines));
        everyTestIsNamed(lines);
        Check.end();
    }

    private static void examplesAnswerSo(List<String> lines) throws ReflectiveOperationException {
        boolean inside = false;
        int calls = 0;
        for (String line : lines) {
            if (line.startsWith("```")) {
                inside = line.equals("```java");
            } else if (inside && line.equals(START)) {
                warehouse = new PickSlots();
                NAMES.clear();
            } else if (inside) {
                call(line);
                calls++;
            }
        }
        Check.holds("there are calls in README.md", calls > 0);
    }

    private static void call(String line) throws ReflectiveOperationException {
        Matcher m = CALL.matcher(line);
        if (!m.matches()) {
            Check.holds("a call and its answer: " + line, false);
            return;
        }
        String[] told = m.group(3).isEmpty() ? new String[0] : m.group(3).split(", ");
        Object[] values = new Object[told.length];
        Class<?>[] types = new Class<?>[told.length];
        for (int i = 0; i < told.length; i++) {
            values[i] = value(told[i]);
            types[i] = int.class;
        }
        int answer = answer(m.group(2), types, values);
        Check.due("README.md: " + line, answer, Integer.parseInt(m.group(4)));
        if (m.group(1) != null) {
            NAMES.put(m.group(1), answer);
        }
    }

    private static int answer(String call, Class<?>[] types, Object[] values)
            throws NoSuchMethodException, IllegalAccessException, InvocationTargetException {
        return (int) PickSlots.class.getMethod(call, types).invoke(warehouse, values);
    }

    private static int value(String told) {
        if (told.startsWith("'")) {
            return told.charAt(1);
        }
        return NAMES.containsKey(told) ? NAMES.get(told) : Integer.parseInt(told);
    }

    private static void constantsAreSo(List<String> lines) throws ReflectiveOperationException {
        int rows = 0;
        for (String line : lines) {
            Matcher m = ROW.matcher(line);
            if (m.matches()) {
                rows++;
                Check.due("README.md: " + line, Integer.parseInt(m.group(2)),
                        PickSlots.class.getField(m.group(1)).getInt(null));
            }
        }
        Check.due("constants in README.md", rows, 4);
    }

    private static void everyCallIsNamed(String page) {
        for (Method m : PickSlots.class.getDeclaredMethods()) {
            if (Modifier.isPublic(m.getModifiers())) {
                Check.holds("README.md names " + m.getName(), page.contains("`" + m.getName() + "`"));
            }
        }
    }

    private static void everyTestIsNamed(List<String> lines) throws IOException {
        List<String> named = new ArrayList<>();
        for (String line : lines) {
            Matcher m = TEST_ROW.matcher(line);
            if (m.matches()) {
                named.add(m.group(1) + ".java");
                Check.holds("there is " + m.group(1), Files.exists(TESTS.resolve(m.group(1) + ".java")));
            }
        }
        try (DirectoryStream<Path> tests = Files.newDirectoryStream(TESTS, "*Test.java")) {
            for (Path test : tests) {
                Check.holds("README.md names " + test.getFileName(), named.contains(test.getFileName().toString()));
            }
        }
    }
}
