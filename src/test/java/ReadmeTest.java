import java.io.IOException;
import java.lang.reflect.Field;
import java.lang.reflect.InvocationTargetException;
import java.lang.reflect.Method;
import java.lang.reflect.Modifier;
import java.nio.file.Files;
import java.nio.file.Path;
import java.util.List;
import java.util.TreeSet;
import java.util.regex.Matcher;
import java.util.regex.Pattern;
import java.util.stream.Stream;

/** README.md: that its example has the answers that it tells, and that it names each call, constant and test. */
public final class ReadmeTest {
    private static final Pattern CALL = Pattern.compile("x\\.(\\w+)\\((.*)\\);\\s+// (-?\\d+|[A-Z_]+)\\b.*");
    private static final Pattern CALL_ROW = Pattern.compile("\\| `(\\w+)\\((.*?)\\)` \\|.*");
    private static final Pattern CONSTANT_ROW = Pattern.compile("\\| `([A-Z_]+)` \\| (-?\\d+) \\|.*");
    private static final Pattern TEST_ROW = Pattern.compile("\\| (\\w+Test) \\|.*");

    private final List<String> lines;

    private ReadmeTest(List<String> lines) {
        this.lines = lines;
    }

    public static void main(String[] args) throws IOException {
        ReadmeTest page = new ReadmeTest(Files.readAllLines(Path.of("README.md")));
        Check.test("README: each call of the example has the answer that is told", page::example);
        Check.test("README: each call of the class has a row, and no other one", page::calls);
        Check.test("README: each constant has a row, with its value", page::constants);
        TreeSet<String> tests = tests();
        Check.test("README: each test has a row", () ->
            Check.due("the tests", page.rows(TEST_ROW, 1), String.join(" ", tests)));
        Check.finish();
    }

    private static TreeSet<String> tests() throws IOException {
        TreeSet<String> names = new TreeSet<>();
        try (Stream<Path> files = Files.list(Path.of("src/test/java"))) {
            files.map(file -> file.getFileName().toString()).filter(name -> name.endsWith("Test.java"))
                .forEach(name -> names.add(name.replace(".java", "")));
        }
        return names;
    }

    /** What the groups of a pattern find, in ascending order. */
    private String rows(Pattern row, int groups) {
        TreeSet<String> found = new TreeSet<>();
        for (String line : lines) {
            Matcher matcher = row.matcher(line);
            if (matcher.matches()) {
                found.add(groups == 1 ? matcher.group(1) : matcher.group(1) + "=" + matcher.group(2));
            }
        }
        return String.join(" ", found);
    }

    private void constants() {
        TreeSet<String> due = new TreeSet<>();
        for (Field field : AnchoredComments.class.getDeclaredFields()) {
            if (Modifier.isPublic(field.getModifiers())) {
                due.add(field.getName() + "=" + constant(field.getName()));
            }
        }
        Check.due("the constants", rows(CONSTANT_ROW, 2), String.join(" ", due));
    }

    private void calls() {
        TreeSet<String> due = new TreeSet<>();
        for (Method method : AnchoredComments.class.getDeclaredMethods()) {
            if (Modifier.isPublic(method.getModifiers())) {
                due.add(method.getName() + "/" + method.getParameterCount());
            }
        }
        TreeSet<String> told = new TreeSet<>();
        for (String line : lines) {
            Matcher row = CALL_ROW.matcher(line);
            if (row.matches()) {
                told.add(row.group(1) + "/" + parts(row.group(2)).length);
            }
        }
        Check.due("the calls", String.join(" ", told), String.join(" ", due));
    }

    private void example() {
        AnchoredComments x = new AnchoredComments();
        int calls = 0;
        for (String line : lines) {
            if (line.startsWith("x.")) {
                Matcher call = CALL.matcher(line);
                Check.due(line + " tells an answer", call.matches() ? 1 : 0, 1);
                Check.due(line, answer(x, call.group(1), parts(call.group(2))), value(call.group(3)));
                calls++;
            }
        }
        Check.due("there is an example", calls > 0 ? 1 : 0, 1);
    }

    private static String[] parts(String arguments) {
        return arguments.isEmpty() ? new String[0] : arguments.split(", ");
    }

    private static long answer(AnchoredComments x, String name, String[] arguments) {
        Object[] given = new Object[arguments.length];
        for (int i = 0; i < given.length; i++) {
            boolean truth = arguments[i].equals("true") || arguments[i].equals("false");
            given[i] = truth ? (Object) Boolean.valueOf(arguments[i]) : (Object) (int) value(arguments[i]);
        }
        try {
            for (Method method : AnchoredComments.class.getDeclaredMethods()) {
                if (method.getName().equals(name) && Modifier.isPublic(method.getModifiers())) {
                    return ((Number) method.invoke(x, given)).longValue();
                }
            }
        } catch (IllegalAccessException | InvocationTargetException thrown) {
            throw new IllegalStateException(name + " threw " + thrown.getCause());
        }
        throw new IllegalStateException("there is no call " + name);
    }

    /** A number, a letter between quotes, or the name of a constant. */
    private static long value(String text) {
        if (text.matches("'.'")) {
            return text.charAt(1);
        }
        return text.matches("-?\\d+") ? Long.parseLong(text) : constant(text);
    }

    private static long constant(String name) {
        try {
            return AnchoredComments.class.getField(name).getInt(null);
        } catch (ReflectiveOperationException missing) {
            throw new IllegalStateException("there is no constant " + name);
        }
    }
}
