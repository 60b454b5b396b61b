import java.io.ByteArrayOutputStream;
import java.io.IOException;
import java.io.PrintStream;
import java.net.URL;
import java.net.URLClassLoader;
import java.nio.charset.StandardCharsets;
import java.nio.file.Files;
import java.nio.file.Path;
import java.util.ArrayList;
import java.util.List;
import java.util.regex.Matcher;
import java.util.regex.Pattern;
import javax.tools.JavaCompiler;
import javax.tools.ToolProvider;

/** The example of README.md is compiled and run; it must print the numbers behind its lines. Runs in the checkout. */
public final class ReadmeTest {
    public static void main(String[] args) throws Exception {
        Check c = new Check();
        String code = example(Files.readString(Path.of("README.md")));
        List<String> want = promised(code);
        List<String> got = printed(code);
        c.due("lines that the example prints", got.size(), want.size());
        c.due("the example promises something", want.isEmpty() ? 0 : 1, 1);
        for (int i = 0; i < want.size() && i < got.size(); i++) {
            c.due("line " + (i + 1) + " that the example prints", Long.parseLong(got.get(i)),
                Long.parseLong(want.get(i)));
        }
        c.end("ReadmeTest");
    }

    private static String example(String readme) {
        Matcher block = Pattern.compile("```java\n(.*?)```", Pattern.DOTALL).matcher(readme);
        return block.find() ? block.group(1) : "";
    }

    private static List<String> promised(String code) {
        List<String> numbers = new ArrayList<>();
        Matcher line = Pattern.compile("println\\(.*// (-?\\d+):").matcher(code);
        while (line.find()) {
            numbers.add(line.group(1));
        }
        return numbers;
    }

    private static List<String> printed(String code) throws Exception {
        Path folder = Files.createTempDirectory("readme");
        try {
            return run(folder, code);
        } finally {
            for (String name : List.of("Example.java", "Example.class")) {
                Files.deleteIfExists(folder.resolve(name));
            }
            Files.deleteIfExists(folder);
        }
    }

    private static List<String> run(Path folder, String code) throws Exception {
        compile(folder, code);
        PrintStream usual = System.out;
        ByteArrayOutputStream kept = new ByteArrayOutputStream();
        try (URLClassLoader loader = new URLClassLoader(new URL[] {folder.toUri().toURL()})) {
            System.setOut(new PrintStream(kept, true, StandardCharsets.UTF_8));
            loader.loadClass("Example").getMethod("main", String[].class).invoke(null, (Object) new String[0]);
        } finally {
            System.setOut(usual);
        }
        return kept.toString(StandardCharsets.UTF_8).lines().toList();
    }

    private static void compile(Path folder, String code) throws IOException {
        Path file = Files.writeString(folder.resolve("Example.java"), code);
        JavaCompiler compiler = ToolProvider.getSystemJavaCompiler();
        String path = System.getProperty("java.class.path");
        if (compiler.run(null, null, null, "-cp", path, "-d", folder.toString(), file.toString()) != 0) {
            throw new IOException("the example of README.md does not compile");
        }
    }
}
