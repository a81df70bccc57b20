import java.io.IOException;
import java.lang.reflect.Method;
import java.lang.reflect.Modifier;
import java.nio.file.Files;
import java.nio.file.Path;
import java.util.List;
import java.util.Set;
import java.util.TreeSet;
import java.util.regex.Matcher;
import java.util.regex.Pattern;
import java.util.stream.Collectors;
import java.util.stream.Stream;

/** What README.md says of the class and of its tests is so; run from the project's own directory. */
public final class ReadmeTest {
    private static final Pattern TEXT = Pattern.compile("\"([^\"]*)\"\\.toCharArray");
    private static final Pattern CALL = Pattern.compile("\\s*x\\.(\\w+)\\(([^)]*)\\);\\s*// (-?\\d+): .*");
    private static final Pattern CALL_ROW = Pattern.compile("\\| `(\\w+)\\(([^)]*)\\)` \\| .*");
    private static final Pattern TEST_ROW = Pattern.compile("\\| `(\\w+Test)` \\| .*");

    public static void main(String[] args) throws IOException, ReflectiveOperationException {
        List<String> lines = Files.readAllLines(Path.of("README.md"));
        example(lines);
        namesAllCalls(lines);
        namesAllTests(lines);
        Check.end();
    }

    /** The example's lines in their order: the text is written, each call with an answer behind it is made. */
    private static void example(List<String> lines) throws ReflectiveOperationException {
        OlderByABlush x = new OlderByABlush();
        int calls = 0;
        int start = lines.indexOf("```java");
        for (int k = start + 1; start >= 0 && k < lines.size() && !lines.get(k).equals("```"); k++) {
            Matcher text = TEXT.matcher(lines.get(k));
            Matcher call = CALL.matcher(lines.get(k));
            if (text.find()) {
                Check.write(x, text.group(1));
                Check.due("README: fault of " + text.group(1), x.fault(), OlderByABlush.NONE);
            } else if (call.matches()) {
                calls++;
                long got = answer(x, call.group(1), call.group(2));
                Check.due("README: " + call.group(1) + "(" + call.group(2) + ")", got, Long.parseLong(call.group(3)));
            }
        }
        Check.due("README: calls with an answer", calls, 10);
    }

    private static long answer(OlderByABlush x, String name, String numbers) throws ReflectiveOperationException {
        Object[] values = Stream.of(numbers.split(", *")).filter(n -> !n.isEmpty()).map(ReadmeTest::number).toArray();
        for (Method m : OlderByABlush.class.getMethods()) {
            if (m.getName().equals(name) && m.getParameterCount() == values.length) {
                return ((Number) m.invoke(x, values)).longValue();
            }
        }
        throw new NoSuchMethodException(name);
    }

    private static Object number(String figures) {
        return figures.startsWith("0b") ? Integer.parseInt(figures.substring(2), 2) : Integer.parseInt(figures);
    }

    private static void namesAllCalls(List<String> lines) {
        Set<String> told = new TreeSet<>();
        for (String line : lines) {
            Matcher row = CALL_ROW.matcher(line);
            if (row.matches()) {
                long many = Stream.of(row.group(2).split(", *")).filter(n -> !n.isEmpty()).count();
                told.add(row.group(1) + "/" + many);
            }
        }
        Set<String> there = new TreeSet<>();
        for (Method m : OlderByABlush.class.getDeclaredMethods()) {
            if (Modifier.isPublic(m.getModifiers())) {
                there.add(m.getName() + "/" + m.getParameterCount());
            }
        }
        Check.same("README: calls and how many numbers they take", told.toString(), there.toString());
    }

    private static void namesAllTests(List<String> lines) throws IOException {
        Set<String> told = new TreeSet<>();
        for (String line : lines) {
            Matcher row = TEST_ROW.matcher(line);
            if (row.matches()) {
                told.add(row.group(1));
            }
        }
        try (Stream<Path> files = Files.list(Path.of("src/test/java"))) {
            Set<String> there = files.map(f -> f.getFileName().toString()).filter(n -> n.endsWith("Test.java"))
                    .map(n -> n.substring(0, n.length() - ".java".length())).collect(Collectors.toCollection(TreeSet::new));
            Check.same("README: tests", told.toString(), there.toString());
        }
    }
}
