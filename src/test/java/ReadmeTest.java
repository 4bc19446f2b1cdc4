import java.io.ByteArrayOutputStream;
import java.io.IOException;
import java.io.PrintStream;
import java.lang.reflect.Method;
import java.lang.reflect.Modifier;
import java.net.URL;
import java.net.URLClassLoader;
import java.nio.charset.StandardCharsets;
import java.nio.file.Files;
import java.nio.file.Path;
import java.util.Comparator;
import java.util.List;
import java.util.stream.Stream;
import javax.tools.ToolProvider;

/** What README.md tells: its example compiles and prints what stands below it, and every call is named. */
public final class ReadmeTest extends Checks {
    private static final String EXAMPLE = "Example";

    public static void main(String[] args) throws IOException, ReflectiveOperationException {
        String readme = Files.readString(Path.of("README.md"));
        String printed = printedBy(block(readme, "java"));
        String told = block(readme, "text");
        test("the example prints what README.md says", () -> due(printed, told));
        test("README.md names every call", () -> {
            for (Method method : Plotwise.class.getDeclaredMethods()) {
                if (Modifier.isPublic(method.getModifiers())) {
                    due(method.getName(), readme.contains("`" + method.getName() + "("), true);
                }
            }
        });
        test("README.md names every test, and how all are run", () -> {
            due(".ci/run", readme.contains(".ci/run"), true);
            for (String name : namesOfTests()) {
                due(name, readme.contains("`" + name + "`"), true);
            }
        });
        finish();
    }

    /** The text of the first block of this language. */
    private static String block(String readme, String language) {
        String fence = "```" + language + "\n";
        int start = readme.indexOf(fence);
        int end = readme.indexOf("\n```", start + fence.length());
        return start < 0 || end < 0 ? "" : readme.substring(start + fence.length(), end + 1);
    }

    private static String printedBy(String program) throws IOException, ReflectiveOperationException {
        Path folder = Files.createTempDirectory("readme");
        try {
            Path source = Files.writeString(folder.resolve(EXAMPLE + ".java"), program);
            int failed = ToolProvider.getSystemJavaCompiler().run(null, null, null, "-d", folder.toString(),
                    "-cp", System.getProperty("java.class.path"), source.toString());
            return failed != 0 ? "it does not compile" : run(folder);
        } finally {
            remove(folder);
        }
    }

    private static String run(Path folder) throws IOException, ReflectiveOperationException {
        PrintStream before = System.out;
        ByteArrayOutputStream bytes = new ByteArrayOutputStream();
        try (URLClassLoader loader = new URLClassLoader(new URL[] {folder.toUri().toURL()});
                PrintStream caught = new PrintStream(bytes, true, StandardCharsets.UTF_8)) {
            System.setOut(caught);
            loader.loadClass(EXAMPLE).getMethod("main", String[].class).invoke(null, (Object) new String[0]);
        } finally {
            System.setOut(before);
        }
        return bytes.toString(StandardCharsets.UTF_8).replace(System.lineSeparator(), "\n");
    }

    private static void remove(Path folder) throws IOException {
        List<Path> paths;
        try (Stream<Path> found = Files.walk(folder)) {
            paths = found.sorted(Comparator.reverseOrder()).toList();
        }
        for (Path path : paths) {
            Files.delete(path);
        }
    }

    private static List<String> namesOfTests() {
        try (Stream<Path> found = Files.list(Path.of("src/test/java"))) {
            return found.map(path -> path.getFileName().toString().replace(".java", "")).sorted().toList();
        } catch (IOException e) {
            throw new IllegalStateException(e);
        }
    }
}
