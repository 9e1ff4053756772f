import java.io.ByteArrayOutputStream;
import java.io.IOException;
import java.io.PrintStream;
import java.net.URL;
import java.net.URLClassLoader;
import java.nio.charset.StandardCharsets;
import java.nio.file.Files;
import java.nio.file.Path;
import java.util.ArrayList;
import java.util.List;
import java.util.regex.Matcher;
import java.util.regex.Pattern;
import javax.tools.JavaCompiler;
import javax.tools.ToolProvider;

/** The example of README.md compiles and prints what stands behind its lines. */
public final class ReadmeTest {
    private static final Path BUILD = Path.of("build/readme");

    public static void main(String[] args) throws IOException, ReflectiveOperationException {
        Check check = new Check("ReadmeTest");
        String readme = Files.readString(Path.of("README.md"), StandardCharsets.UTF_8);
        List<String> examples = found(readme, "(?s)```java\n(.*?)```");
        check.due("examples", 1, examples::size);
        String example = String.join("", examples);
        // Each comment that stands behind a call of println tells what is printed.
        List<String> due = found(example, "println\\(.*\\); *// (.*)");
        check.due("lines of the example that are told", due.size(), () -> found(example, "(println)").size());
        check.due("the example tells answers", 1, () -> Check.bit(!due.isEmpty()));
        boolean compiled = compiles(example);
        check.due("the example compiles", 1, () -> Check.bit(compiled));
        check.dueText("the example", String.join("\n", due), compiled ? printed() : "");
        check.end();
    }

    private static List<String> found(String text, String pattern) {
        List<String> all = new ArrayList<>();
        Matcher matcher = Pattern.compile(pattern).matcher(text);
        while (matcher.find()) {
            all.add(matcher.group(1));
        }
        return all;
    }

    private static boolean compiles(String example) throws IOException {
        JavaCompiler compiler = ToolProvider.getSystemJavaCompiler();
        Files.createDirectories(BUILD);
        Path file = BUILD.resolve("Example.java");
        Files.writeString(file, example, StandardCharsets.UTF_8);
        // By itself, as a reader of README.md would do it: the program's file and the example.
        return compiler != null && compiler.run(null, null, null, "-d", BUILD.toString(),
                "src/main/java/MarkStacks.java", file.toString()) == 0;
    }

    private static String printed() throws IOException, ReflectiveOperationException {
        ByteArrayOutputStream bytes = new ByteArrayOutputStream();
        PrintStream before = System.out;
        URL[] places = {BUILD.toUri().toURL()};
        try (URLClassLoader loader = new URLClassLoader(places, ClassLoader.getPlatformClassLoader())) {
            System.setOut(new PrintStream(bytes, true, StandardCharsets.UTF_8));
            loader.loadClass("Example").getMethod("main", String[].class).invoke(null, (Object) new String[0]);
        } finally {
            System.setOut(before);
        }
        return bytes.toString(StandardCharsets.UTF_8).strip().replace("\r", "");
    }
}
