import java.lang.reflect.Constructor;
import java.lang.reflect.Field;
import java.lang.reflect.Method;
import java.lang.reflect.Modifier;
import java.util.Map;
import java.util.TreeMap;

/** The face of the class: its constants, its constructor and its methods, and nothing else that is not private. */
public final class FaceTest {
    private static final String INDEX = " IndexOutOfBoundsException";
    private static final String ARGUMENT = " IllegalArgumentException";
    private static final String STATE = " IllegalStateException";

    private FaceTest() {
    }

    private static Map<String, String> dueMethods() {
        Map<String, String> due = new TreeMap<>();
        due.put("addTable", "int 2" + ARGUMENT + STATE);
        due.put("addBumper", "int 5" + INDEX + ARGUMENT + STATE);
        due.put("setPoints", "int 3" + INDEX + ARGUMENT + STATE);
        due.put("setMode", "boolean 5" + INDEX + ARGUMENT + STATE);
        due.put("tables", "int 0");
        due.put("stick", "int 2" + INDEX + STATE);
        due.put("sticks", "boolean 2" + INDEX);
        due.put("wear", "int 2" + INDEX);
        due.put("coin", "int 1" + INDEX + STATE);
        due.put("shoot", "int 4" + INDEX + ARGUMENT + STATE);
        due.put("gameAt", "int 1" + INDEX);
        due.put("games", "int 0");
        due.put("ballsLeft", "int 1" + INDEX);
        due.put("stack", "int 1" + INDEX);
        due.put("score", "int 1" + INDEX);
        due.put("scoreByLog", "int 1" + INDEX);
        due.put("valid", "int 1" + INDEX);
        due.put("logged", "int 1" + INDEX);
        due.put("entryAt", "long 2" + INDEX);
        due.put("twin", "int 1" + INDEX);
        due.put("high", "int 2" + INDEX + ARGUMENT);
        due.put("rob", "int 2" + INDEX + ARGUMENT + STATE);
        due.put("box", "int 1" + INDEX);
        due.put("missing", "int 1" + INDEX);
        due.put("load", "int 3" + INDEX + ARGUMENT + STATE);
        due.put("parts", "int 2" + INDEX + ARGUMENT);
        due.put("wanted", "int 1" + ARGUMENT);
        due.put("way", "int 1" + INDEX);
        due.put("planned", "int 2" + INDEX);
        due.put("go", "int 1" + INDEX + STATE);
        due.put("vanAt", "int 1" + INDEX);
        return due;
    }

    private static Map<String, String> methodsOf(Class<?> asked) {
        Map<String, String> found = new TreeMap<>();
        for (Method method : asked.getDeclaredMethods()) {
            if (Modifier.isPrivate(method.getModifiers()) || method.isSynthetic()) {
                continue;
            }
            StringBuilder told = new StringBuilder(method.getReturnType().getSimpleName());
            told.append(' ').append(method.getParameterCount());
            for (Class<?> type : method.getExceptionTypes()) {
                told.append(' ').append(type.getSimpleName());
            }
            for (Class<?> type : method.getParameterTypes()) {
                Check.due(method.getName() + " takes", type, int.class);
            }
            int kept = Modifier.PUBLIC;
            Check.due(method.getName() + " is", Modifier.toString(method.getModifiers()), Modifier.toString(kept));
            found.put(method.getName(), told.toString());
        }
        return found;
    }

    private static void constants() throws IllegalAccessException {
        Map<String, Integer> found = new TreeMap<>();
        for (Field field : TiltRoute.class.getDeclaredFields()) {
            if (!Modifier.isPrivate(field.getModifiers())) {
                Check.due(field.getName() + " is", Modifier.toString(field.getModifiers()), "public static final");
                found.put(field.getName(), field.getInt(null));
            }
        }
        Check.due("the constants", found, new TreeMap<>(Map.of("NONE", -1, "SWITCHES", 0, "COILS", 1)));
    }

    private static void theClass() {
        Class<?> asked = TiltRoute.class;
        Check.due("the class is", Modifier.toString(asked.getModifiers()), "public final");
        Check.due("constructors", asked.getDeclaredConstructors().length, 1);
        for (Constructor<?> made : asked.getDeclaredConstructors()) {
            Check.due("the constructor is", Modifier.toString(made.getModifiers()), "public");
            Check.due("the constructor takes", made.getParameterCount(), 0);
        }
        for (Class<?> inside : asked.getDeclaredClasses()) {
            Check.due(inside.getSimpleName() + " is static", Modifier.isStatic(inside.getModifiers()), true);
            Check.due(inside.getSimpleName() + " is public", Modifier.isPublic(inside.getModifiers()), false);
        }
    }

    public static void main(String[] args) throws IllegalAccessException {
        theClass();
        constants();
        Check.due("the methods", methodsOf(TiltRoute.class), dueMethods());
        Check.end();
    }
}
