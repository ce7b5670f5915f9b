import java.io.ByteArrayOutputStream;
import java.io.IOException;
import java.io.PrintStream;
import java.lang.reflect.Field;
import java.lang.reflect.Method;
import java.lang.reflect.Modifier;
import java.net.URL;
import java.net.URLClassLoader;
import java.nio.file.Files;
import java.nio.file.Path;
import java.util.List;
import java.util.stream.Collectors;
import java.util.stream.Stream;
import javax.tools.JavaCompiler;
import javax.tools.ToolProvider;

/** README.md: its program compiles and prints what stands behind it, and it names every call, constant and test. */
public final class ReadmeTest {
    private static final String PROGRAM = "YourProgram";

    private ReadmeTest() {
    }

    /** The first block of indented lines behind these words, without the indent. */
    private static String blockBehind(String text, String words) {
        int at = text.indexOf("\n" + words + "\n");
        Check.due("the page says " + words, at >= 0, true);
        if (at < 0) {
            return "";
        }
        return text.substring(at + words.length() + 2).lines()
                .dropWhile(String::isBlank)
                .takeWhile(line -> line.isBlank() || line.startsWith("    "))
                .map(line -> line.isBlank() ? "" : line.substring(4))
                .collect(Collectors.joining("\n"))
                .stripTrailing();
    }

    /** Compiles the program and returns what it prints. */
    private static String printedBy(String program) throws IOException, ReflectiveOperationException {
        Path folder = Files.createTempDirectory("readme");
        Path source = folder.resolve(PROGRAM + ".java");
        Path compiled = folder.resolve(PROGRAM + ".class");
        PrintStream screen = System.out;
        try {
            Files.writeString(source, program);
            JavaCompiler compiler = ToolProvider.getSystemJavaCompiler();
            int failed = compiler.run(null, null, null, "-cp", System.getProperty("java.class.path"), "-d",
                    folder.toString(), source.toString());
            Check.due("the program compiles", failed == 0, true);
            if (failed != 0) {
                return "";
            }
            ByteArrayOutputStream printed = new ByteArrayOutputStream();
            System.setOut(new PrintStream(printed, true));
            try (URLClassLoader loader = new URLClassLoader(new URL[] {folder.toUri().toURL()})) {
                loader.loadClass(PROGRAM).getMethod("main", String[].class).invoke(null, (Object) new String[0]);
            }
            return printed.toString().lines().collect(Collectors.joining("\n"));
        } finally {
            System.setOut(screen);
            Files.deleteIfExists(compiled);
            Files.deleteIfExists(source);
            Files.deleteIfExists(folder);
        }
    }

    private static void names(String text) throws IOException {
        for (Method method : TiltRoute.class.getDeclaredMethods()) {
            if (Modifier.isPublic(method.getModifiers())) {
                named(text, method.getName());
            }
        }
        for (Field field : TiltRoute.class.getDeclaredFields()) {
            if (Modifier.isPublic(field.getModifiers())) {
                named(text, field.getName());
            }
        }
        List<String> files;
        try (Stream<Path> found = Files.list(Path.of("src/test/java"))) {
            files = found.map(path -> path.getFileName().toString()).sorted().collect(Collectors.toList());
        }
        for (String file : files) {
            named(text, file.replace(".java", ""));
        }
    }

    private static void named(String text, String name) {
        Check.due("the page names " + name, text.contains("`" + name + "`"), true);
    }

    public static void main(String[] args) throws IOException, ReflectiveOperationException {
        String text = Files.readString(Path.of("README.md"));
        String program = blockBehind(text, "A program that plays a game and sends a van:");
        Check.due("what the program prints", printedBy(program), blockBehind(text, "It prints:"));
        Check.due("the page says how to run the tests", blockBehind(text, "## How to run its tests"), ".ci/run");
        names(text);
        Check.end();
    }
}
