import java.io.ByteArrayOutputStream;
import java.io.IOException;
import java.io.PrintStream;
import java.lang.reflect.Method;
import java.lang.reflect.Modifier;
import java.net.URL;
import java.net.URLClassLoader;
import java.nio.charset.StandardCharsets;
import java.nio.file.Files;
import java.nio.file.Path;
import java.util.ArrayList;
import java.util.List;
import java.util.regex.Matcher;
import java.util.regex.Pattern;
import java.util.stream.Stream;
import javax.tools.JavaCompiler;
import javax.tools.ToolProvider;

/** README.md: its example prints what stands below it, and it tells of every call and every test. */
public final class ReadmeTest {
    private static final Path PROGRAM = Path.of("src/main/java/SeriesWatcher.java");

    public static void main(String[] args) throws Exception {
        String readme = Files.readString(Path.of("README.md"));
        String due = block(readme, "text");
        Checks.same("the example is told with what it prints", due.isEmpty(), false);
        Checks.same("the example of README.md", printed(block(readme, "java")), due);
        Checks.same("calls that README.md does not tell", untoldCalls(readme), List.of());
        Checks.same("tests that README.md does not tell", untoldTests(readme), List.of());
        Checks.end("ReadmeTest");
    }

    private static String block(String readme, String kind) {
        Matcher block = Pattern.compile("```" + kind + "\n(.*?)```", Pattern.DOTALL).matcher(readme);
        return block.find() ? block.group(1) : "";
    }

    private static String printed(String example) throws Exception {
        Path folder = Files.createTempDirectory("readme");
        Path source = folder.resolve("Example.java");
        PrintStream before = System.out;
        ByteArrayOutputStream told = new ByteArrayOutputStream();
        try (URLClassLoader loader = new URLClassLoader(new URL[] {folder.toUri().toURL()}, null)) {
            Files.writeString(source, example);
            JavaCompiler compiler = ToolProvider.getSystemJavaCompiler();
            if (compiler.run(null, null, null, "-d", folder.toString(), PROGRAM.toString(), source.toString()) != 0) {
                return "does not compile";
            }
            System.setOut(new PrintStream(told, true, StandardCharsets.UTF_8));
            loader.loadClass("Example").getMethod("main", String[].class).invoke(null, (Object) new String[0]);
        } finally {
            System.setOut(before);
            remove(folder);
        }
        return told.toString(StandardCharsets.UTF_8).replace("\r\n", "\n");
    }

    private static void remove(Path folder) throws IOException {
        try (Stream<Path> files = Files.list(folder)) {
            for (Path file : files.toList()) {
                Files.delete(file);
            }
        }
        Files.delete(folder);
    }

    private static List<String> untoldCalls(String readme) {
        List<String> untold = new ArrayList<>();
        for (Method method : SeriesWatcher.class.getDeclaredMethods()) {
            if (Modifier.isPublic(method.getModifiers()) && !readme.contains("`" + method.getName() + "(")) {
                untold.add(method.getName());
            }
        }
        return untold;
    }

    private static List<String> untoldTests(String readme) throws IOException {
        List<String> untold = new ArrayList<>();
        try (Stream<Path> tests = Files.list(Path.of("src/test/java"))) {
            for (Path test : tests.toList()) {
                String name = test.getFileName().toString().replace(".java", "");
                if (!readme.contains("- `" + name + "`:")) {
                    untold.add(name);
                }
            }
        }
        return untold;
    }
}
