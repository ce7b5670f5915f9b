import java.io.IOException;
import java.lang.reflect.Constructor;
import java.lang.reflect.Field;
import java.lang.reflect.Method;
import java.lang.reflect.Modifier;
import java.nio.file.Files;
import java.nio.file.Path;
import java.util.ArrayList;
import java.util.List;
import java.util.Map;
import java.util.TreeMap;
import java.util.regex.Matcher;
import java.util.regex.Pattern;

/** The face of the class: its constants, its constructor and its methods, and nothing else that is not private. */
public final class FaceTest {
    private static final String INDEX = " IndexOutOfBoundsException";
    private static final String ARGUMENT = " IllegalArgumentException";
    private static final String STATE = " IllegalStateException";

    private FaceTest() {
    }

    private static Map<String, String> dueMethods() {
        Map<String, String> due = new TreeMap<>();
        due.put("addTable", "int 2" + ARGUMENT + STATE);
        due.put("addBumper", "int 5" + INDEX + ARGUMENT + STATE);
        due.put("setPoints", "int 3" + INDEX + ARGUMENT + STATE);
        due.put("setMode", "boolean 5" + INDEX + ARGUMENT + STATE);
        due.put("tables", "int 0");
        due.put("stick", "int 2" + INDEX + STATE);
        due.put("sticks", "boolean 2" + INDEX);
        due.put("wear", "int 2" + INDEX);
        due.put("coin", "int 1" + INDEX + STATE);
        due.put("shoot", "int 4" + INDEX + ARGUMENT + STATE);
        due.put("gameAt", "int 1" + INDEX);
        due.put("games", "int 0");
        due.put("ballsLeft", "int 1" + INDEX);
        due.put("stack", "int 1" + INDEX);
        due.put("score", "int 1" + INDEX);
        due.put("scoreByLog", "int 1" + INDEX);
        due.put("valid", "int 1" + INDEX);
        due.put("logged", "int 1" + INDEX);
        due.put("entryAt", "long 2" + INDEX);
        due.put("twin", "int 1" + INDEX);
        due.put("high", "int 2" + INDEX + ARGUMENT);
        due.put("rob", "int 2" + INDEX + ARGUMENT + STATE);
        due.put("box", "int 1" + INDEX);
        due.put("missing", "int 1" + INDEX);
        due.put("load", "int 3" + INDEX + ARGUMENT + STATE);
        due.put("parts", "int 2" + INDEX + ARGUMENT);
        due.put("wanted", "int 1" + ARGUMENT);
        due.put("way", "int 1" + INDEX);
        due.put("planned", "int 2" + INDEX);
        due.put("go", "int 1" + INDEX + STATE);
        due.put("vanAt", "int 1" + INDEX);
        return due;
    }

    private static Map<String, String> methodsOf(Class<?> asked) {
        Map<String, String> found = new TreeMap<>();
        for (Method method : asked.getDeclaredMethods()) {
            if (Modifier.isPrivate(method.getModifiers()) || method.isSynthetic()) {
                continue;
            }
            StringBuilder told = new StringBuilder(method.getReturnType().getSimpleName());
            told.append(' ').append(method.getParameterCount());
            for (Class<?> type : method.getExceptionTypes()) {
                told.append(' ').append(type.getSimpleName());
            }
            for (Class<?> type : method.getParameterTypes()) {
                Check.due(method.getName() + " takes", type, int.class);
            }
            int kept = Modifier.PUBLIC;
            Check.due(method.getName() + " is", Modifier.toString(method.getModifiers()), Modifier.toString(kept));
            found.put(method.getName(), told.toString());
        }
        return found;
    }

    private static void constants() throws IllegalAccessException {
        Map<String, Integer> found = new TreeMap<>();
        for (Field field : TiltRoute.class.getDeclaredFields()) {
            if (!Modifier.isPrivate(field.getModifiers())) {
                Check.due(field.getName() + " is", Modifier.toString(field.getModifiers()), "public static final");
                found.put(field.getName(), field.getInt(null));
            }
        }
        Check.due("the constants", found, new TreeMap<>(Map.of("NONE", -1, "SWITCHES", 0, "COILS", 1)));
    }

    private static void meanings() {
        Document.saysOfAll("The constants: `NONE = -1`: There is none.");
        Check.due("NONE", TiltRoute.NONE, -1);
        TiltRoute x = Routes.withButtons(1);
        Check.due("no game", x.gameAt(0), -1);
        Check.due("no game at a place", x.high(0, 0), -1);
        x.coin(0);
        Check.due("no twin", x.twin(0), -1);
        Check.due("no mode", Routes.withButtons(1).setMode(0, 0, -1, 102, 0), false);

        Document.saysOfAll("`SWITCHES = 0, COILS = 1`: Kinds of spare parts.");
        Check.due("SWITCHES", TiltRoute.SWITCHES, 0);
        Check.due("COILS", TiltRoute.COILS, 1);
        TiltRoute z = Routes.withButtons(1);
        z.stick(0, 0);
        Check.due("a switch that sticks wants the kind 0", z.wanted(0), 1);
        Check.due("it does not want the kind 1", z.wanted(1), 0);
        z.load(0, 1, 1);
        z.go(0);
        Check.due("a part of the kind 1 does not mend it", z.sticks(0, 0), true);
        z.load(0, 0, 1);
        z.go(0);
        Check.due("a part of the kind 0 mends it", z.sticks(0, 0), false);
    }

    /** The parts of the face, in their order, each behind the words that the interface says ahead of them. */
    private static void order() throws IOException {
        String text = Files.readString(Path.of("src/main/java/TiltRoute.java"));
        Document.saysOfAll("Ahead of the calls `addTable`, `addBumper`, `setPoints`, `setMode`, `tables`, `stick`, "
                + "`sticks`, `wear` the interface says: ---- tables.");
        dueOrder(text, "---- tables", "addTable", "addBumper", "setPoints", "setMode", "tables", "stick", "sticks",
                "wear");
        Document.saysOfAll("Ahead of the calls `coin`, `shoot`, `gameAt`, `games`, `ballsLeft`, `stack`, `score`, "
                + "`scoreByLog`, `valid`, `logged`, `entryAt`, `twin`, `high` the interface says: ---- games.");
        dueOrder(text, "---- games", "coin", "shoot", "gameAt", "games", "ballsLeft", "stack", "score", "scoreByLog",
                "valid", "logged", "entryAt", "twin", "high");
        Document.saysOfAll("Ahead of the calls `rob`, `box`, `missing`, `load`, `parts`, `wanted`, `way`, `planned`, "
                + "`go`, `vanAt` the interface says: ---- boxes and vans.");
        dueOrder(text, "---- boxes and vans", "rob", "box", "missing", "load", "parts", "wanted", "way", "planned",
                "go", "vanAt");
    }

    private static void dueOrder(String text, String words, String... names) {
        Matcher heads = Pattern.compile("(?m)^ {4}// (---- [a-z ]+)$|^ {4}public \\w+ (\\w+)\\(").matcher(text);
        List<String> found = new ArrayList<>();
        String said = "";
        while (heads.find()) {
            said = heads.group(1) != null ? heads.group(1) : said;
            if (heads.group(2) != null && said.equals(words)) {
                found.add(heads.group(2));
            }
        }
        Check.due("the calls behind " + words, found, List.of(names));
    }

    private static void theClass() {
        Class<?> asked = TiltRoute.class;
        Check.due("the class is", Modifier.toString(asked.getModifiers()), "public final");
        Check.due("constructors", asked.getDeclaredConstructors().length, 1);
        for (Constructor<?> made : asked.getDeclaredConstructors()) {
            Check.due("the constructor is", Modifier.toString(made.getModifiers()), "public");
            Check.due("the constructor takes", made.getParameterCount(), 0);
        }
        for (Class<?> inside : asked.getDeclaredClasses()) {
            Check.due(inside.getSimpleName() + " is static", Modifier.isStatic(inside.getModifiers()), true);
            Check.due(inside.getSimpleName() + " is public", Modifier.isPublic(inside.getModifiers()), false);
        }
    }

    public static void main(String[] args) throws IllegalAccessException, IOException {
        theClass();
        constants();
        Check.due("the methods", methodsOf(TiltRoute.class), dueMethods());
        meanings();
        order();
        Document.demandTerm("Vans", 4, 8);
        Check.end();
    }
}
