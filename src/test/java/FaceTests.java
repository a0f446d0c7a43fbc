import java.lang.reflect.Constructor;
import java.lang.reflect.Field;
import java.lang.reflect.Method;
import java.lang.reflect.Modifier;
import java.util.Arrays;
import java.util.Set;
import java.util.TreeSet;

/** The face is the document's, to the letter, and nothing else can be seen from outside. */
final class FaceTests {
    private static final String OUT = "IndexOutOfBoundsException";
    private static final String ARGUMENT = "IllegalArgumentException";
    private static final String STATE = "IllegalStateException";

    private static final Set<String> METHODS = new TreeSet<>(Arrays.asList(
            "int change(int, int) " + OUT + " " + ARGUMENT + " " + STATE,
            "int pass(int) " + ARGUMENT + " " + STATE,
            "int full() " + STATE,
            "int increment() " + STATE,
            "int damage(int) " + OUT,
            "int drill(int) " + OUT,
            "int setRules(int, int, int) " + ARGUMENT,
            "int thin()",
            "int day()",
            "int copies()",
            "int space()",
            "int dayOf(int) " + OUT,
            "int baseOf(int) " + OUT,
            "int keeps(int) " + OUT,
            "boolean isPromised(int) " + OUT,
            "boolean isNeeded(int) " + OUT,
            "boolean isProved(int) " + OUT,
            "int restore(int, int) " + OUT,
            "int restoreByChanges(int, int) " + OUT,
            "int onCall(int) " + ARGUMENT,
            "int swap(int, int) " + ARGUMENT + " " + STATE,
            "int alarm(int) " + ARGUMENT));

    private FaceTests() {
    }

    static void addTo(Tests tests) {
        tests.test("face: the class is public and final", () ->
                Tests.due("modifiers", Modifier.toString(DrillVault.class.getModifiers()), "public final"));
        tests.test("face: the constructor", () -> {
            Constructor<?>[] made = DrillVault.class.getDeclaredConstructors();
            Tests.due("constructors", made.length, 1);
            Tests.due("constructor", made[0].toString(), "public DrillVault()");
        });
        tests.test("face: NONE is the one constant, -1", () -> {
            Set<String> seen = new TreeSet<>();
            for (Field field : DrillVault.class.getDeclaredFields()) {
                if (!Modifier.isPrivate(field.getModifiers())) {
                    seen.add(field.toString());
                }
            }
            Tests.due("fields", seen.toString(), "[public static final int DrillVault.NONE]");
            Tests.due("NONE", DrillVault.NONE, -1);
        });
        tests.test("face: the methods are those of the document", () -> {
            Set<String> seen = new TreeSet<>();
            for (Method method : DrillVault.class.getDeclaredMethods()) {
                if (!Modifier.isPrivate(method.getModifiers())) {
                    Tests.due(method + " modifiers", Modifier.toString(method.getModifiers()), "public");
                    seen.add(described(method));
                }
            }
            Tests.due("methods", seen, METHODS);
        });
        tests.test("face: no private method bears the name of a public one", FaceTests::noNameTwice);
        tests.test("face: static fields are final, classes inside are static and not public", () -> {
            for (Class<?> inside : DrillVault.class.getDeclaredClasses()) {
                Tests.due(inside + " static", Modifier.isStatic(inside.getModifiers()), true);
                Tests.due(inside + " public", Modifier.isPublic(inside.getModifiers()), false);
                staticFieldsAreFinal(inside);
            }
            staticFieldsAreFinal(DrillVault.class);
        });
    }

    private static String described(Method method) {
        StringBuilder text = new StringBuilder();
        text.append(method.getReturnType().getSimpleName()).append(' ').append(method.getName()).append('(');
        String comma = "";
        for (Class<?> parameter : method.getParameterTypes()) {
            text.append(comma).append(parameter.getSimpleName());
            comma = ", ";
        }
        text.append(')');
        for (Class<?> thrown : method.getExceptionTypes()) {
            text.append(' ').append(thrown.getSimpleName());
        }
        return text.toString();
    }

    private static void noNameTwice() {
        Set<String> faces = new TreeSet<>();
        for (String method : METHODS) {
            faces.add(method.substring(method.indexOf(' ') + 1, method.indexOf('(')));
        }
        for (Method method : DrillVault.class.getDeclaredMethods()) {
            if (Modifier.isPrivate(method.getModifiers())) {
                Tests.due(method + " bears a public name", faces.contains(method.getName()), false);
            }
        }
        for (Class<?> inside : DrillVault.class.getDeclaredClasses()) {
            for (Method method : inside.getDeclaredMethods()) {
                Tests.due(method + " bears a public name", faces.contains(method.getName()), false);
            }
        }
    }

    private static void staticFieldsAreFinal(Class<?> owner) {
        for (Field field : owner.getDeclaredFields()) {
            if (Modifier.isStatic(field.getModifiers())) {
                Tests.due(field + " final", Modifier.isFinal(field.getModifiers()), true);
            }
        }
    }
}
