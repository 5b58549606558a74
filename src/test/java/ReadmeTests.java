import java.io.ByteArrayOutputStream;
import java.io.IOException;
import java.io.PrintStream;
import java.lang.reflect.Field;
import java.lang.reflect.Method;
import java.lang.reflect.Modifier;
import java.nio.charset.StandardCharsets;
import java.nio.file.Files;
import java.nio.file.Path;
import java.util.Arrays;
import java.util.List;
import java.util.stream.Collectors;
import java.util.stream.Stream;

/** README.md: that its example is the one that runs, prints what it says, and that its tables leave nothing out. */
public final class ReadmeTests {
    private static final Path TESTS = Path.of("src/test/java");

    private ReadmeTests() {
    }

    public static void main(String[] args) throws IOException {
        String readme = Files.readString(Path.of("README.md"));
        Checks.due("the example", block(readme, "java"), Files.readString(TESTS.resolve("Example.java")));
        Checks.due("what it prints", block(readme, "text"), printed());
        calls(readme);
        errors(readme);
        tests(readme);
        Checks.end();
    }

    private static String block(String readme, String kind) {
        String head = "```" + kind + "\n";
        int start = readme.indexOf(head);
        int end = start < 0 ? -1 : readme.indexOf("```", start + head.length());
        return end < 0 ? "no such block" : readme.substring(start + head.length(), end);
    }

    private static String printed() {
        PrintStream before = System.out;
        ByteArrayOutputStream bytes = new ByteArrayOutputStream();
        System.setOut(new PrintStream(bytes, true, StandardCharsets.UTF_8));
        Example.main(new String[0]);
        System.setOut(before);
        return bytes.toString(StandardCharsets.UTF_8).replace(System.lineSeparator(), "\n");
    }

    /** Each call stands in the table with as many arguments as it has, and with its questions if it asks one. */
    private static void calls(String readme) {
        for (Method method : MirroredTalks.class.getMethods()) {
            if (method.getDeclaringClass() == MirroredTalks.class) {
                String row = only("call " + method.getName(), readme, "| `" + method.getName() + "(");
                String arguments = row.replaceAll("^[^(]*\\(|\\).*$", "");
                int told = arguments.isEmpty() ? 0 : arguments.split(", ").length;
                Checks.due("arguments of " + method.getName(), told, method.getParameterCount());
                if (Arrays.asList(arguments.split(", ")).contains("what")) {
                    only("questions of " + method.getName(), readme, "| `" + method.getName() + "` |");
                }
            }
        }
    }

    private static void errors(String readme) {
        for (Field field : MirroredTalks.class.getFields()) {
            if (Modifier.isStatic(field.getModifiers())) {
                only("error " + field.getName(), readme, "| `" + field.getName() + "` (" + value(field) + ") |");
            }
        }
    }

    private static int value(Field field) {
        try {
            return field.getInt(null);
        } catch (IllegalAccessException e) {
            throw new IllegalStateException(field.getName(), e);
        }
    }

    private static void tests(String readme) throws IOException {
        try (Stream<Path> files = Files.list(TESTS)) {
            List<String> names = files.map(file -> file.getFileName().toString())
                    .filter(name -> name.endsWith("Tests.java")).sorted().collect(Collectors.toList());
            for (String name : names) {
                only("test " + name, readme, "| `" + name.replace(".java", "") + "` |");
            }
            Checks.due("tests told", readme.lines().filter(line -> line.matches("\\| `\\w+Tests` \\|.*")).count(),
                    names.size());
        }
    }

    /** The only line that begins like this, or an empty one. */
    private static String only(String what, String readme, String beginning) {
        List<String> lines = readme.lines().filter(line -> line.startsWith(beginning)).collect(Collectors.toList());
        Checks.due("lines for the " + what, lines.size(), 1);
        return lines.isEmpty() ? "" : lines.get(0);
    }
}
