import java.io.IOException;
import java.lang.reflect.InvocationTargetException;
import java.lang.reflect.Method;
import java.lang.reflect.Modifier;
import java.nio.file.Files;
import java.nio.file.Path;
import java.util.HashMap;
import java.util.Map;
import java.util.TreeSet;
import java.util.regex.Matcher;
import java.util.regex.Pattern;
import java.util.stream.Stream;

/** What README.md says fits the class and the tests. Run at the project's root. */
public final class ReadmeTest {
    private static final Path TESTS = Path.of("src/test/java");
    private static final String NEW_BENCH = "ReviewBench bench = new ReviewBench();";
    private static final Pattern STEP = Pattern.compile(
        "(?:int (\\w+) = )?bench\\.(\\w+)\\(([^)]*)\\);\\s*// (throws \\w+|'.'|\\w+)(?:: .*)?");

    private final ReviewBench bench = new ReviewBench();
    private final Map<String, Integer> variables = new HashMap<>();

    private ReadmeTest() {
    }

    public static void main(String[] args) throws IOException {
        String readme = Files.readString(Path.of("README.md"));
        new ReadmeTest().checkExample(part(readme, "```java\n", "```"));
        checkCalls(part(readme, "The calls:", "\n\n`edits`"));
        checkTests(readme.substring(readme.indexOf("## Tests")));
        Check.end("ReadmeTest");
    }

    private static String part(String text, String from, String to) {
        int start = text.indexOf(from);
        int end = start < 0 ? -1 : text.indexOf(to, start + from.length());
        Check.due("README.md has a part from " + from.trim(), true, () -> end >= 0);
        return end < 0 ? "" : text.substring(start + from.length(), end);
    }

    private static TreeSet<String> found(String pattern, String text) {
        TreeSet<String> names = new TreeSet<>();
        Matcher matcher = Pattern.compile(pattern).matcher(text);
        while (matcher.find()) {
            names.add(matcher.group(1));
        }
        return names;
    }

    private void checkExample(String example) {
        String[] lines = example.split("\n");
        Check.due("the example's first line", NEW_BENCH, () -> lines[0]);
        for (int number = 1; number < lines.length; number++) {
            String line = lines[number];
            Matcher step = STEP.matcher(line);
            boolean isStep = step.matches();
            Check.due("README.md: " + line + " is a call with its answer", true, () -> isStep);
            if (isStep) {
                checkStep(line, step);
            }
        }
    }

    private void checkStep(String line, Matcher step) {
        String due = step.group(4).replace("'", "").replace("throws ", "throws.");
        String got = Check.outcome(() -> answered(step.group(2), step.group(3)));
        Check.due("README.md: " + line, due, () -> got);
        if (step.group(1) != null && got.matches("\\d+")) {
            variables.put(step.group(1), Integer.parseInt(got));
        }
    }

    private Object answered(String name, String arguments) {
        String[] said = arguments.isEmpty() ? new String[0] : arguments.split(", ");
        Object[] values = new Object[said.length];
        Class<?>[] types = new Class<?>[said.length];
        for (int place = 0; place < said.length; place++) {
            Integer variable = variables.get(said[place]);
            values[place] = variable == null ? Integer.valueOf(said[place]) : variable;
            types[place] = int.class;
        }
        try {
            return ReviewBench.class.getMethod(name, types).invoke(bench, values);
        } catch (InvocationTargetException thrown) {
            throw (RuntimeException) thrown.getCause();
        } catch (ReflectiveOperationException thrown) {
            return "no such call: " + thrown;
        }
    }

    private static void checkCalls(String listed) {
        TreeSet<String> calls = new TreeSet<>();
        for (Method method : ReviewBench.class.getDeclaredMethods()) {
            if (Modifier.isPublic(method.getModifiers())) {
                calls.add(method.getName());
            }
        }
        Check.due("the calls that README.md lists", calls, () -> found("`(\\w+)`", listed));
    }

    private static void checkTests(String described) throws IOException {
        TreeSet<String> tests = new TreeSet<>();
        try (Stream<Path> files = Files.list(TESTS)) {
            files.map(file -> file.getFileName().toString()).filter(name -> name.endsWith("Test.java"))
                .forEach(name -> tests.add(name.replace(".java", "")));
        }
        Check.due("the tests that README.md describes", tests, () -> found("`(\\w+Test)`", described));
    }
}
