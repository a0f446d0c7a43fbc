import java.io.IOException;
import java.lang.reflect.InvocationTargetException;
import java.lang.reflect.Method;
import java.lang.reflect.Modifier;
import java.nio.file.Files;
import java.nio.file.Path;
import java.util.ArrayList;
import java.util.Arrays;
import java.util.List;
import java.util.Set;
import java.util.TreeSet;
import java.util.regex.Matcher;
import java.util.regex.Pattern;

/** What README.md says of the calls: the examples answer what it tells, the tables have the whole face. */
final class ReadmeTests {
    private static final Path README = Path.of("README.md");
    private static final String NEW_OBJECT = "DrillVault vault = new DrillVault();";
    private static final int MOST_CALLS = 512;

    /** A call, or the same call some times over, and behind it the answer, or the last of the answers. */
    private static final Pattern EXAMPLE = Pattern.compile(
            "(?:for \\(int i = 0; i < (\\d+); i\\+\\+\\) \\{ )?vault\\.(\\w+)\\(([^()]*)\\);(?: \\})?"
            + " +// (-?\\d+|NONE|true|false|throws \\w+)(?:: .+)?");
    private static final Pattern TABLE_ROW = Pattern.compile("\\| `(\\w+)\\(([^()]*)\\)` \\|.*\\| ?([^|]*)\\|");
    private static final Pattern EXCEPTION = Pattern.compile("`(\\w+Exception)`: [^;]+");

    private ReadmeTests() {
    }

    static void addTo(Tests tests) {
        tests.test("README: its calls answer what it tells", () -> {
            List<List<String>> examples = examples();
            Tests.due("examples", examples.size(), 5);
            for (List<String> example : examples) {
                run(example);
            }
        });
        tests.test("README: its examples show each call, and each exception of it", () ->
                Tests.due("shown", shown(), faceWithExceptions()));
        tests.test("README: its tables have each call of the face, and what it throws, in its order", () ->
                Tests.due("rows", rows(), face()));
        tests.test("README: NONE and the 512 calls", () -> {
            Tests.due("NONE", told("`DrillVault.NONE` (" + DrillVault.NONE + ")"), true);
            Tests.due("calls", told("at most " + MOST_CALLS + " calls"), true);
        });
        tests.test("README: the first line decides", () -> {
            Tests.due("told", told("`change(10, 100)` throws\nIndexOutOfBoundsException"), true);
            Tests.dueThrow("change(10, 100)", Edges.OUT, () -> new DrillVault().change(10, 100));
        });
    }

    private static List<String> lines() {
        try {
            return Files.readAllLines(README);
        } catch (IOException missing) {
            throw new AssertionError("README.md can't be read: run the tests from the root of the checkout", missing);
        }
    }

    private static boolean told(String words) {
        return String.join("\n", lines()).contains(words);
    }

    /** The lines of each Java example, without those that are empty. */
    private static List<List<String>> examples() {
        List<List<String>> examples = new ArrayList<>();
        List<String> open = null;
        for (String line : lines()) {
            if (line.equals("```java")) {
                open = new ArrayList<>();
                examples.add(open);
            } else if (line.startsWith("```")) {
                open = null;
            } else if (open != null && !line.isEmpty()) {
                open.add(line);
            }
        }
        return examples;
    }

    private static void run(List<String> example) {
        Tests.due("the first line", example.get(0), NEW_OBJECT);
        DrillVault vault = new DrillVault();
        int calls = 0;
        for (String line : example.subList(1, example.size())) {
            Matcher parts = parts(line);
            int times = parts.group(1) == null ? 1 : Integer.parseInt(parts.group(1));
            String answer = "";
            for (int i = 0; i < times; i++) {
                answer = answer(vault, parts.group(2), arguments(parts.group(3)));
            }
            calls += times;
            Tests.due(line, answer, due(parts.group(4)));
        }
        Tests.due("calls of one object: " + calls, calls <= MOST_CALLS, true);
    }

    private static Matcher parts(String line) {
        Matcher parts = EXAMPLE.matcher(line);
        if (!parts.matches()) {
            throw new AssertionError("not a call with its answer: " + line);
        }
        return parts;
    }

    private static String due(String told) {
        if (told.startsWith("throws ")) {
            return "throws java.lang." + told.substring("throws ".length());
        }
        return told.equals("NONE") ? String.valueOf(DrillVault.NONE) : told;
    }

    private static Object[] arguments(String told) {
        List<Object> arguments = new ArrayList<>();
        for (String argument : told.isEmpty() ? new String[0] : told.split(", ")) {
            arguments.add(Integer.valueOf(argument));
        }
        return arguments.toArray();
    }

    private static String answer(DrillVault vault, String name, Object[] arguments) {
        Class<?>[] types = new Class<?>[arguments.length];
        Arrays.fill(types, int.class);
        try {
            return String.valueOf(DrillVault.class.getMethod(name, types).invoke(vault, arguments));
        } catch (InvocationTargetException thrown) {
            return "throws " + thrown.getCause().getClass().getName();
        } catch (ReflectiveOperationException missing) {
            throw new AssertionError("no such call: " + name, missing);
        }
    }

    /** Each call that an example shows, by its name, and each exception that it is shown to throw. */
    private static Set<String> shown() {
        Set<String> shown = new TreeSet<>();
        for (List<String> example : examples()) {
            for (String line : example.subList(1, example.size())) {
                Matcher parts = parts(line);
                String told = parts.group(4);
                shown.add(told.startsWith("throws ") ? parts.group(2) + " " + told : parts.group(2));
            }
        }
        return shown;
    }

    private static Set<String> faceWithExceptions() {
        Set<String> face = new TreeSet<>();
        for (Method method : publicMethods()) {
            face.add(method.getName());
            for (Class<?> thrown : method.getExceptionTypes()) {
                face.add(method.getName() + " throws " + thrown.getSimpleName());
            }
        }
        return face;
    }

    private static Set<String> rows() {
        Set<String> rows = new TreeSet<>();
        for (String line : lines()) {
            Matcher row = TABLE_ROW.matcher(line);
            if (row.matches()) {
                rows.add(described(row.group(1), arity(row.group(2)), exceptions(row.group(3))));
            }
        }
        return rows;
    }

    private static int arity(String parameters) {
        return parameters.isEmpty() ? 0 : parameters.split(", ").length;
    }

    private static List<String> exceptions(String cell) {
        List<String> named = new ArrayList<>();
        Matcher exception = EXCEPTION.matcher(cell);
        while (exception.find()) {
            named.add(exception.group(1));
        }
        return named;
    }

    private static Set<String> face() {
        Set<String> face = new TreeSet<>();
        for (Method method : publicMethods()) {
            List<String> thrown = new ArrayList<>();
            for (Class<?> type : method.getExceptionTypes()) {
                thrown.add(type.getSimpleName());
            }
            face.add(described(method.getName(), method.getParameterCount(), thrown));
        }
        return face;
    }

    private static String described(String name, int parameters, List<String> exceptions) {
        return name + "/" + parameters + " " + exceptions;
    }

    private static List<Method> publicMethods() {
        List<Method> methods = new ArrayList<>();
        for (Method method : DrillVault.class.getDeclaredMethods()) {
            if (Modifier.isPublic(method.getModifiers())) {
                methods.add(method);
            }
        }
        return methods;
    }
}
