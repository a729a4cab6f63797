import java.io.IOException;
import java.io.OutputStream;
import java.lang.reflect.Field;
import java.lang.reflect.Modifier;
import java.net.URL;
import java.net.URLClassLoader;
import java.nio.file.Files;
import java.nio.file.Path;
import java.util.List;
import java.util.regex.Matcher;
import java.util.regex.Pattern;
import java.util.stream.Collectors;
import java.util.stream.Stream;
import javax.tools.JavaCompiler;
import javax.tools.ToolProvider;

/** README.md: each answer of its example is due, and it names every call, every constant and every test. */
public final class ReadmeTest {
    /** A call of the example with the answer behind it, a number or a constant. */
    private static final Pattern TOLD = Pattern.compile("(|int \\w+ = )(x\\.\\w+\\(.*\\)); +// (-?\\d+|[A-Z_]+)(:.*)?");
    private static final Pattern CALL = Pattern.compile("    public int (\\w+)\\((.*)\\) \\{");
    private static final Path PROGRAM = Path.of("src/main/java/ThinVolumes.java");
    private static final Path TESTS = Path.of("src/test/java");

    public static void main(String[] args) throws ReflectiveOperationException, IOException {
        List<String> page = Files.readAllLines(Path.of("README.md"));
        calls(page);
        constants(page);
        tests(page);
        example(page);
        Check.end("ReadmeTest");
    }

    private static void calls(List<String> page) throws IOException {
        int calls = 0;
        for (String line : Files.readAllLines(PROGRAM)) {
            Matcher call = CALL.matcher(line);
            if (call.matches()) {
                calls++;
                dueRow(page, call.group(1) + "(" + call.group(2).replace("int ", "") + ")");
            }
        }
        Check.due("calls of the program", calls, 24);
    }

    private static void constants(List<String> page) throws IllegalAccessException {
        for (Field field : ThinVolumes.class.getDeclaredFields()) {
            if (Modifier.isPublic(field.getModifiers())) {
                dueRow(page, field.getName() + "` | " + field.getInt(null) + " |");
            }
        }
    }

    private static void tests(List<String> page) throws IOException {
        try (Stream<Path> files = Files.list(TESTS)) {
            List<String> names = files.map(file -> file.getFileName().toString())
                .filter(name -> name.endsWith("Test.java")).sorted().collect(Collectors.toList());
            for (String name : names) {
                dueRow(page, name.substring(0, name.indexOf('.')) + "`");
            }
        }
    }

    private static void dueRow(List<String> page, String words) {
        Check.due("README.md has a row for " + words, page.stream().anyMatch(line -> line.startsWith("| `" + words)));
    }

    private static void example(List<String> page) throws ReflectiveOperationException, IOException {
        int first = page.indexOf("```java");
        int last = page.lastIndexOf("```");
        Check.due("README.md has an example", first >= 0 && last > first);
        if (first < 0 || last <= first) {
            return;
        }
        StringBuilder code = new StringBuilder("public final class ReadmeExample {\n    public static void run() {\n");
        int told = 0;
        for (String line : page.subList(first + 1, last)) {
            Matcher call = TOLD.matcher(line);
            told += call.matches() ? 1 : 0;
            code.append(call.matches() ? checked(call) : line).append('\n');
        }
        Check.due("the example tells answers", told >= 20);
        run(code.append("    }\n}\n").toString());
    }

    private static String checked(Matcher call) {
        String want = Character.isUpperCase(call.group(3).charAt(0)) ? "ThinVolumes." + call.group(3) : call.group(3);
        return call.group(1) + "ReadmeTest.told(\"" + call.group(2) + "\", " + call.group(2) + ", " + want + ");";
    }

    /** What the example calls in place of each call that it tells the answer of. */
    public static int told(String call, int got, int want) {
        Check.due("README.md: " + call, got, want);
        return got;
    }

    private static void run(String code) throws ReflectiveOperationException, IOException {
        Path folder = Files.createTempDirectory("readme");
        Path file = Files.writeString(folder.resolve("ReadmeExample.java"), code);
        JavaCompiler compiler = ToolProvider.getSystemJavaCompiler();
        int failed = compiler.run(null, OutputStream.nullOutputStream(), System.out, "-cp",
            System.getProperty("java.class.path"), "-d", folder.toString(), file.toString());
        Check.due("the example is compiled", failed, 0);
        if (failed == 0) {
            try (URLClassLoader loader = new URLClassLoader(new URL[] {folder.toUri().toURL()})) {
                loader.loadClass("ReadmeExample").getMethod("run").invoke(null);
            }
        }
        Files.deleteIfExists(folder.resolve("ReadmeExample.class"));
        Files.deleteIfExists(file);
        Files.deleteIfExists(folder);
    }
}
