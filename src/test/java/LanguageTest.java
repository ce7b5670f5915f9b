import java.io.IOException;
import java.lang.reflect.Field;
import java.lang.reflect.Method;
import java.lang.reflect.Modifier;
import java.nio.file.Files;
import java.nio.file.Path;
import java.util.ArrayList;
import java.util.HashSet;
import java.util.List;
import java.util.Set;
import java.util.regex.Matcher;
import java.util.regex.Pattern;

/** Those rules of LANGUAGE.md that the text of the class, or reflection, can show. */
public final class LanguageTest {
    private static final String[] KEPT_OUT = {"\\bcatch\\b", "\\btry\\b", "\\bfinally\\b", "\\bassert\\b",
        "\\bsynchronized\\b", "->", "::", "Exact\\b", "\\binstanceof\\b", "\\bobject\\.equals\\b", "\\bhashCode\\b",
        "\\btoString\\b", "\\bSystem\\b", "\\bThread\\b", "\\bRandom\\b", "\\bvar\\b", "\\bdouble\\b", "\\bfloat\\b",
        "\\bpackage\\b", "@", "\\b(Integer|Long)\\.[A-Z]", "\"\\s*\\+", "\\+\\s*\""};
    private static final Set<String> EXCEPTIONS = Set.of("IllegalStateException", "IllegalArgumentException",
            "IndexOutOfBoundsException");

    private LanguageTest() {
    }

    private static String codeOf(String text) {
        return text.replaceAll("(?s)/\\*.*?\\*/", "").replaceAll("//[^\n]*", "");
    }

    private static void text(String text) {
        String code = codeOf(text);
        for (String pattern : KEPT_OUT) {
            Check.due("the code has " + pattern, Pattern.compile(pattern).matcher(code).find(), false);
        }
        Matcher imports = Pattern.compile("import ([^;]*);").matcher(code);
        List<String> imported = new ArrayList<>();
        while (imports.find()) {
            imported.add(imports.group(1));
        }
        Check.due("imports", imported, List.of("java.util.ArrayList"));
        Matcher thrown = Pattern.compile("\\bthrow\\b([^;]*);").matcher(code);
        while (thrown.find()) {
            Matcher made = Pattern.compile(" new (\\w+)\\(\"[^\"]*\"\\)").matcher(thrown.group(1));
            Check.due("a throw of a new exception with a written text: " + thrown.group(1), made.matches(), true);
            Check.due(thrown.group(1) + " is one of the document", EXCEPTIONS.contains(made.group(1)), true);
        }
        for (int i = 0; i < text.length(); i++) {
            Check.due("a sign at " + i + " is 1 to 127", text.charAt(i) >= 1 && text.charAt(i) <= 127, true);
        }
    }

    /** The methods, by the indents that the file keeps to. */
    private static void lengthsOfMethods(String text) {
        String[] lines = text.split("\n");
        int from = -1;
        for (int i = 0; i < lines.length; i++) {
            Check.due("line " + (i + 1) + " has up to 120 signs", lines[i].length() <= 120, true);
            if (lines[i].matches(" {4}( {4})?\\S.*\\).*\\{") && !lines[i].matches(" +(if|for|while|\\}).*")) {
                from = i;
            } else if (lines[i].matches(" {4}( {4})?\\}") && from >= 0) {
                Check.due("the method in line " + (from + 1) + " is short", i - from <= 60, true);
                from = -1;
            }
        }
    }

    private static void shapes(Class<?> asked, Set<String> publicNames) {
        int fields = 0;
        for (Field field : asked.getDeclaredFields()) {
            boolean isStatic = Modifier.isStatic(field.getModifiers());
            Check.due(field + " is static and not final", isStatic && !Modifier.isFinal(field.getModifiers()), false);
            fields += isStatic ? 0 : 1;
        }
        Check.due(asked + " has up to 20 fields", fields <= 20, true);
        for (Method method : asked.getDeclaredMethods()) {
            Check.due(method + " takes up to 7", method.getParameterCount() <= 7, true);
            boolean face = asked == TiltRoute.class && Modifier.isPublic(method.getModifiers());
            Check.due(method + " has the name of a public one", !face && publicNames.contains(method.getName()), false);
        }
    }

    public static void main(String[] args) throws IOException {
        String text = Files.readString(Path.of("src/main/java/TiltRoute.java"));
        text(text);
        lengthsOfMethods(text);
        Set<String> publicNames = new HashSet<>();
        for (Method method : TiltRoute.class.getDeclaredMethods()) {
            if (Modifier.isPublic(method.getModifiers())) {
                publicNames.add(method.getName());
            }
        }
        shapes(TiltRoute.class, publicNames);
        Class<?>[] inside = TiltRoute.class.getDeclaredClasses();
        Check.due("up to 12 classes", inside.length < 12, true);
        for (Class<?> one : inside) {
            shapes(one, publicNames);
        }
        Check.end();
    }
}
