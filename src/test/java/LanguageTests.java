import java.io.IOException;
import java.lang.reflect.Constructor;
import java.lang.reflect.Field;
import java.lang.reflect.Method;
import java.lang.reflect.Modifier;
import java.nio.file.Files;
import java.nio.file.Path;
import java.util.ArrayList;
import java.util.Arrays;
import java.util.List;
import java.util.TreeSet;
import java.util.regex.Matcher;
import java.util.regex.Pattern;

/** The face of the class, and those rules of LANGUAGE.md that can be told from the program's text. */
public final class LanguageTests {
    private static final Path SOURCE = Path.of("src/main/java/MirroredTalks.java");
    private static final String[] FACE = {
        "int kind(int,int,int)", "int arrow(int,int,int,int)", "int erase(int,int,int)", "int copy(int,int)",
        "int mirror(int)", "int stateOf(int,int,int)", "int unlike(int)", "int pairOf(int,int,int,int)",
        "int talk(int,int,int)", "long talks(int,int)", "int standsIn(int,int)", "int against(int,int,int)",
        "int count(int)", "int undo()", "int type(int)", "int clearText()", "int fault(int)", "int read(int)"};
    private static final String[] FORBIDDEN = {
        "throw", "throws", "try", "catch", "finally", "synchronized", "assert", "float", "double", "var", "native",
        "volatile", "transient", "equals", "hashCode", "toString", "yield", "\\w+Exact"};

    private LanguageTests() {
    }

    public static void main(String[] args) throws IOException {
        face();
        constants();
        membersInside();
        String code = withoutComments(Files.readString(SOURCE));
        forbiddenWords(code);
        objectsAreMadeOnce(code);
        methodsAreShort(code);
        Checks.end();
    }

    private static void none(String what, List<String> found) {
        Checks.due(what + " " + found, found.size(), 0);
    }

    private static void face() {
        TreeSet<String> methods = new TreeSet<>();
        TreeSet<String> names = new TreeSet<>();
        for (Method method : MirroredTalks.class.getDeclaredMethods()) {
            if (!Modifier.isPrivate(method.getModifiers())) {
                String parameters = Arrays.toString(Arrays.stream(method.getParameterTypes())
                        .map(Class::getSimpleName).toArray()).replaceAll("[\\[\\] ]", "");
                methods.add(method.getReturnType() + " " + method.getName() + "(" + parameters + ")");
                names.add(method.getName());
                Checks.due("public and not static: " + method, method.getModifiers(), Modifier.PUBLIC);
            }
        }
        TreeSet<String> due = new TreeSet<>(Arrays.asList(FACE));
        Checks.due("the face " + methods, methods.equals(due) ? 1 : 0, 1);
        List<String> again = new ArrayList<>();
        for (Method method : MirroredTalks.class.getDeclaredMethods()) {
            if (Modifier.isPrivate(method.getModifiers()) && names.contains(method.getName())) {
                again.add(method.getName());
            }
        }
        none("private methods with public names", again);
        Constructor<?>[] constructors = MirroredTalks.class.getDeclaredConstructors();
        Checks.due("constructors", constructors.length, 1);
        Checks.due("without parameters", constructors[0].getParameterCount(), 0);
        Checks.due("the class", MirroredTalks.class.getModifiers(), Modifier.PUBLIC | Modifier.FINAL);
    }

    private static void constants() {
        Checks.due("INVALID_ARGUMENT", MirroredTalks.INVALID_ARGUMENT, -1000001);
        Checks.due("NOT_POSSIBLE", MirroredTalks.NOT_POSSIBLE, -1000002);
        Checks.due("LIMIT_REACHED", MirroredTalks.LIMIT_REACHED, -1000003);
        Checks.due("NOT_FOUND", MirroredTalks.NOT_FOUND, -1000004);
        List<String> seen = new ArrayList<>();
        for (Field field : MirroredTalks.class.getDeclaredFields()) {
            if (!Modifier.isPrivate(field.getModifiers())) {
                seen.add(field.getName());
            }
        }
        Checks.due("fields to be seen " + seen, seen.size(), 4);
    }

    private static void membersInside() {
        List<String> wrong = new ArrayList<>();
        Class<?>[] inside = MirroredTalks.class.getDeclaredClasses();
        for (Class<?> type : inside) {
            int hidden = Modifier.PUBLIC | Modifier.PROTECTED;
            if (!Modifier.isStatic(type.getModifiers()) || (type.getModifiers() & hidden) != 0) {
                wrong.add(type.getName());
            }
            for (Field field : type.getDeclaredFields()) {
                if (Modifier.isStatic(field.getModifiers()) && !Modifier.isFinal(field.getModifiers())) {
                    wrong.add(field.toString());
                }
            }
        }
        none("classes inside", wrong);
        Checks.due("not too many classes", inside.length < 12 ? 1 : 0, 1);
    }

    private static String withoutComments(String source) {
        return source.replaceAll("(?s)/\\*.*?\\*/", "").replaceAll("//.*", "");
    }

    private static void forbiddenWords(String code) {
        for (String word : FORBIDDEN) {
            List<String> found = new ArrayList<>();
            Matcher matcher = Pattern.compile("\\b" + word + "\\b").matcher(code);
            while (matcher.find()) {
                found.add(matcher.group());
            }
            none("forbidden", found);
        }
        none("lambdas and method references", code.lines().filter(line -> line.matches(".*(->|::).*")).toList());
        none("packages", code.lines().filter(line -> line.startsWith("package")).toList());
        none("imports", code.lines().filter(line -> line.startsWith("import"))
                .filter(line -> !line.equals("import java.util.Arrays;")).toList());
    }

    /** All rows are made in constructors, so no call needs any room. */
    private static void objectsAreMadeOnce(String code) {
        none("objects made by calls", code.lines()
                .filter(line -> line.matches(".*\\bnew\\b.*") && !line.contains("private final")).toList());
    }

    private static void methodsAreShort(String code) {
        List<String> longOnes = new ArrayList<>();
        String[] lines = code.split("\n", -1);
        Pattern head = Pattern.compile("( {4}| {8})\\S.*\\) \\{");
        for (int i = 0; i < lines.length; i++) {
            Matcher matcher = head.matcher(lines[i]);
            if (matcher.matches()) {
                int end = i;
                while (!lines[end].equals(matcher.group(1) + "}")) {
                    end++;
                }
                if (end - i > 60) {
                    longOnes.add(lines[i].trim());
                }
            }
        }
        none("long methods", longOnes);
    }
}
