import java.io.IOException;
import java.lang.reflect.InvocationTargetException;
import java.lang.reflect.Method;
import java.nio.file.Files;
import java.nio.file.Path;
import java.util.Arrays;
import java.util.HashMap;
import java.util.List;
import java.util.Map;
import java.util.Set;
import java.util.TreeSet;
import java.util.regex.Matcher;
import java.util.regex.Pattern;
import java.util.stream.Collectors;
import java.util.stream.Stream;

/** README.md tells the truth: its example answers what it says, and it names all calls and tests. */
final class ReadmeTest {
    private static final Checks CHECKS = new Checks("ReadmeTest");
    private static final Path README = Path.of("README.md");
    private static final Path TESTS = Path.of("src/test/java");

    /** A line of the example: a name for the answer or none, the call, and what is due behind //. */
    private static final Pattern LINE = Pattern.compile(
            "(?:int (\\w+) = )?x\\.(\\w+)\\(([^)]*)\\); *// (-?\\d+|throws \\w+)\\b.*");
    private static final String FIRST_LINE = "CapabilityDomains x = new CapabilityDomains();";

    private final CapabilityDomains x = new CapabilityDomains();
    private final Map<String, Integer> names = new HashMap<>();
    private final Set<String> called = new TreeSet<>();

    public static void main(String[] args) throws IOException, ReflectiveOperationException {
        List<String> lines = Files.readAllLines(README);
        ReadmeTest example = new ReadmeTest();
        example.run(lines.subList(lines.indexOf("```java") + 1, lines.lastIndexOf("```")));
        CHECKS.check("the calls of the example", example.called.toString(), faceNames().toString());
        CHECKS.check("the calls in the table", namesInRows(lines, "`(\\w+)\\(.*").toString(),
                faceNames().toString());
        CHECKS.check("the tests in the table", namesInRows(lines, "`(\\w+Test)`.*").toString(),
                testNames().toString());
        CHECKS.finish();
    }

    private static Set<String> faceNames() {
        return Arrays.stream(CapabilityDomains.class.getMethods())
                .filter(m -> m.getDeclaringClass() == CapabilityDomains.class)
                .map(Method::getName).collect(Collectors.toCollection(TreeSet::new));
    }

    private static Set<String> testNames() throws IOException {
        try (Stream<Path> files = Files.list(TESTS)) {
            return files.map(file -> file.getFileName().toString().replace(".java", ""))
                    .filter(name -> name.endsWith("Test"))
                    .collect(Collectors.toCollection(TreeSet::new));
        }
    }

    private static Set<String> namesInRows(List<String> lines, String row) {
        Pattern pattern = Pattern.compile("\\| " + row);
        return lines.stream().map(pattern::matcher).filter(Matcher::matches)
                .map(matcher -> matcher.group(1)).collect(Collectors.toCollection(TreeSet::new));
    }

    private void run(List<String> lines) throws ReflectiveOperationException {
        CHECKS.check("the example's first line", lines.get(0), FIRST_LINE);
        for (String line : lines.subList(1, lines.size())) {
            Matcher matcher = LINE.matcher(line);
            if (matcher.matches()) {
                call(line, matcher);
            } else {
                CHECKS.check("a line of the example", line, "");
            }
        }
    }

    private void call(String line, Matcher matcher) throws ReflectiveOperationException {
        called.add(matcher.group(2));
        String got = answer(matcher.group(2), arguments(matcher.group(3)));
        CHECKS.check(line, got, matcher.group(4));
        if (matcher.group(1) != null) {
            names.put(matcher.group(1), Integer.valueOf(got));
        }
    }

    private Object[] arguments(String text) {
        return text.isEmpty() ? new Object[0]
                : Stream.of(text.split(", ")).map(this::sum).toArray();
    }

    private int sum(String text) {
        return Stream.of(text.split(" \\+ "))
                .mapToInt(part -> names.containsKey(part) ? names.get(part) : Integer.parseInt(part))
                .sum();
    }

    private String answer(String name, Object[] arguments) throws ReflectiveOperationException {
        Class<?>[] ints = new Class<?>[arguments.length];
        Arrays.fill(ints, int.class);
        try {
            return String.valueOf(CapabilityDomains.class.getMethod(name, ints).invoke(x, arguments));
        } catch (InvocationTargetException e) {
            return "throws " + e.getCause().getClass().getSimpleName();
        }
    }
}
