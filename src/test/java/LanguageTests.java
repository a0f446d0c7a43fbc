import java.io.IOException;
import java.lang.reflect.Field;
import java.lang.reflect.Method;
import java.lang.reflect.Modifier;
import java.nio.file.Files;
import java.nio.file.Path;
import java.util.ArrayList;
import java.util.Arrays;
import java.util.HashSet;
import java.util.List;
import java.util.Set;
import java.util.TreeSet;
import java.util.regex.Matcher;
import java.util.regex.Pattern;

/** The rules of LANGUAGE.md that can be looked at from outside: words, names and sizes. */
final class LanguageTests {
    private static final Path SOURCE = Path.of("src/main/java/DrillVault.java");

    /** What rules 2, 4, 5, 6 and 13 leave out, and what the class does without: it catches nothing. */
    private static final List<String> WORDS_LEFT_OUT = List.of("package", "import", "finally", "synchronized", "assert",
            "try", "catch", "volatile", "transient", "native", "strictfp", "var", "Object", "Exact");

    private static final Set<String> LIBRARY = Set.of("String", "StringBuilder", "Integer", "Long", "Math", "ArrayList",
            "List", "Iterator", "Iterable", "Comparable", "System", "Arrays", "Override");
    private static final Set<String> EXCEPTIONS = Set.of("IllegalStateException", "IllegalArgumentException",
            "IndexOutOfBoundsException");

    private static final Pattern NAME_OF_A_CLASS = Pattern.compile("\\b[A-Z]\\w*[a-z]\\w*\\b");

    private LanguageTests() {
    }

    static void addTo(Tests tests) {
        tests.test("rules 4, 5, 6: no import, no catch, no lambda, none of the words left out", () -> {
            String code = code();
            for (String word : WORDS_LEFT_OUT) {
                Tests.due(word, Pattern.compile("\\b" + word + "\\b|\\w" + word + "\\(").matcher(code).find(), false);
            }
            Tests.due("lambda", code.contains("->"), false);
            Tests.due("method reference", code.contains("::"), false);
            Tests.due("static initialiser", Pattern.compile("\\bstatic\\s*\\{").matcher(code).find(), false);
        });
        tests.test("rule 4: no class but its own and the library's part", () -> {
            Set<String> known = new HashSet<>(LIBRARY);
            known.addAll(EXCEPTIONS);
            for (Class<?> each : classes()) {
                known.add(each.getSimpleName());
            }
            Set<String> others = new TreeSet<>();
            Matcher names = NAME_OF_A_CLASS.matcher(code());
            while (names.find()) {
                if (!known.contains(names.group())) {
                    others.add(names.group());
                }
            }
            Tests.due("other classes", others.toString(), "[]");
        });
        tests.test("rule 6: each exception is thrown new, with a written text", () -> {
            Matcher thrown = Pattern.compile("\\bthrow\\b").matcher(code());
            Matcher whole = Pattern.compile("throw new (\\w+)\\(\"[^\"]+\"\\);").matcher(source());
            while (thrown.find()) {
                Tests.due("a throw in the form of rule 6", whole.find(), true);
                Tests.due(whole.group(), EXCEPTIONS.contains(whole.group(1)), true);
            }
        });
        tests.test("rule 11: parameters, fields, classes and lines are few", () -> {
            Tests.due("classes", classes().size() <= 12, true);
            for (Class<?> each : classes()) {
                Tests.due("fields of " + each, fields(each) <= 20, true);
                for (Method method : each.getDeclaredMethods()) {
                    Tests.due("parameters of " + method, method.getParameterCount() <= 7, true);
                }
            }
            for (String method : List.of("    ", "        ")) {
                Tests.due("lines of the longest method", longest(method) <= 60, true);
            }
        });
    }

    private static String source() {
        try {
            return Files.readString(SOURCE);
        } catch (IOException missing) {
            throw new AssertionError(SOURCE + " can't be read: run the tests from the root of the checkout", missing);
        }
    }

    /** The source without its comments and texts. */
    private static String code() {
        return source().replaceAll("(?s)/\\*.*?\\*/", "").replaceAll("//.*", "").replaceAll("\"[^\"\n]*\"", "\"\"");
    }

    private static List<Class<?>> classes() {
        List<Class<?>> all = new ArrayList<>(Arrays.asList(DrillVault.class.getDeclaredClasses()));
        all.add(DrillVault.class);
        return all;
    }

    private static int fields(Class<?> owner) {
        int fields = 0;
        for (Field field : owner.getDeclaredFields()) {
            fields += Modifier.isStatic(field.getModifiers()) ? 0 : 1;
        }
        return fields;
    }

    /** The lines of the longest method whose first and last line stand behind the indent. */
    private static int longest(String indent) {
        int longest = 0;
        int lines = 0;
        boolean ofAClass = false;
        for (String line : source().split("\n")) {
            lines++;
            if (line.equals(indent + "}")) {
                longest = ofAClass ? longest : Math.max(longest, lines);
            } else if (line.startsWith(indent) && !line.startsWith(indent + " ")) {
                lines = 1;
                ofAClass = line.contains(" class ");
            }
        }
        return longest;
    }
}
