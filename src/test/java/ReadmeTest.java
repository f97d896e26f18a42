import java.io.IOException;
import java.lang.reflect.Method;
import java.lang.reflect.Modifier;
import java.nio.charset.StandardCharsets;
import java.nio.file.Files;
import java.nio.file.Path;
import java.util.ArrayList;
import java.util.Arrays;
import java.util.List;
import java.util.TreeSet;
import java.util.regex.Matcher;
import java.util.regex.Pattern;
import java.util.stream.Stream;

/** README.md: its examples have the answers that it tells, its tables have each call, and it names each test. */
public final class ReadmeTest {
    private static final Path TESTS = Path.of("src/test/java");
    private static final Pattern BLOCK = Pattern.compile("(?s)```java\n(.*?)```");
    private static final Pattern CALL = Pattern.compile("grid\\.(\\w+)\\((.*)\\); *// (-?\\d+)(?:: (.*))?");
    private static final Pattern ROW = Pattern.compile("(?m)^\\| `(\\w+)\\((.*?)\\)` \\| .* \\| .*\\|$");
    private static final Pattern FED = Pattern.compile("(?s)static void feed.*\n}");

    private static PenaltyGrid grid;

    public static void main(String[] args) throws IOException, ReflectiveOperationException {
        String readme = read(Path.of("README.md"));
        TreeSet<String> face = new TreeSet<>();
        for (Method m : PenaltyGrid.class.getDeclaredMethods()) {
            if (Modifier.isPublic(m.getModifiers())) face.add(m.getName() + " " + m.getParameterCount());
        }
        Check.about("the examples");
        Check.holds("they have each call", examples(readme).equals(face));
        Check.about("the tables");
        Check.holds("they have each call", rows(readme).equals(face));
        Check.about("what feeds a text");
        fed(readme);
        Check.about("the tests");
        tests(readme);
        Check.end();
    }

    private static String read(Path file) throws IOException {
        return Files.readString(file, StandardCharsets.UTF_8);
    }

    /** Asks all that the examples ask, in their order: the calls that they have. */
    private static TreeSet<String> examples(String readme) throws ReflectiveOperationException {
        TreeSet<String> asked = new TreeSet<>();
        Matcher blocks = BLOCK.matcher(readme);
        while (blocks.find()) {
            for (String line : blocks.group(1).split("\n")) {
                if (line.equals("PenaltyGrid grid = new PenaltyGrid();")) grid = new PenaltyGrid();
                if (line.startsWith("grid.")) asked.add(example(line));
            }
        }
        return asked;
    }

    private static String example(String line) throws ReflectiveOperationException {
        Matcher call = CALL.matcher(line);
        Check.holds(line + " is a call with its answer, of a grid", call.matches() && grid != null);
        String[] texts = call.group(2).isEmpty() ? new String[0] : call.group(2).split(", ");
        Method method = method(call.group(1), texts.length);
        Object[] numbers = new Object[texts.length];
        for (int i = 0; i < texts.length; i++) numbers[i] = number(texts[i], method.getParameterTypes()[i]);
        Check.due(line, (int) method.invoke(grid, numbers), Long.parseLong(call.group(3)));
        if (method.getName().equals("feed")) Check.holds(line + " feeds what it tells", bytes(numbers).equals(call.group(4)));
        return method.getName() + " " + texts.length;
    }

    private static Method method(String name, int parameters) {
        for (Method m : PenaltyGrid.class.getDeclaredMethods()) {
            if (Modifier.isPublic(m.getModifiers()) && m.getName().equals(name) && m.getParameterCount() == parameters) return m;
        }
        throw new IllegalStateException("there is no call " + name + " of " + parameters);
    }

    private static Object number(String text, Class<?> type) {
        if (type == boolean.class) return Boolean.valueOf(text);
        if (type == long.class) return Long.decode(text.replace("L", ""));
        return Integer.valueOf(text);
    }

    /** What a feed brings, between quotes. */
    private static String bytes(Object[] numbers) {
        StringBuilder bytes = new StringBuilder("\"");
        for (int i = 0; i < (int) numbers[1]; i++) bytes.append((char) ((long) numbers[0] >>> 8 * i & 255));
        return bytes.append('"').toString();
    }

    private static TreeSet<String> rows(String readme) {
        TreeSet<String> rows = new TreeSet<>();
        Matcher found = ROW.matcher(readme);
        while (found.find()) {
            int parameters = found.group(2).isEmpty() ? 0 : found.group(2).split(", ").length;
            Check.holds(found.group(1) + " has one row", rows.add(found.group(1) + " " + parameters));
        }
        return rows;
    }

    /** The tests feed their texts by the same lines, so these hold. */
    private static void fed(String readme) throws IOException {
        Matcher found = FED.matcher(readme);
        boolean isThere = found.find();
        Check.holds("it is there", isThere);
        if (isThere) Check.holds("it is that of the tests", plain(read(TESTS.resolve("helpers/Check.java"))).contains(plain(found.group())));
    }

    private static String plain(String code) {
        return code.replaceAll("\\s+", " ");
    }

    private static void tests(String readme) throws IOException {
        List<String> names = new ArrayList<>();
        for (Path folder : Arrays.asList(TESTS, TESTS.resolve("helpers"))) {
            try (Stream<Path> files = Files.list(folder)) {
                files.filter(Files::isRegularFile).forEach(file -> names.add(file.getFileName().toString()));
            }
        }
        for (String name : names) {
            if (name.endsWith("Test.java")) Check.holds(name + " is named", readme.contains(name));
        }
        Matcher named = Pattern.compile("\\w+\\.java").matcher(readme.substring(readme.indexOf("## How to run its tests")));
        while (named.find()) Check.holds(named.group() + " is there", names.contains(named.group()));
        Check.holds("the one command is told", readme.contains("\n    bash .ci/run\n") && Files.isExecutable(Path.of(".ci/run")));
    }
}
