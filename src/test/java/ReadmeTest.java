import java.io.ByteArrayOutputStream;
import java.io.IOException;
import java.io.PrintStream;
import java.lang.reflect.Method;
import java.net.URL;
import java.net.URLClassLoader;
import java.nio.charset.StandardCharsets;
import java.nio.file.DirectoryStream;
import java.nio.file.Files;
import java.nio.file.Path;
import java.util.regex.Matcher;
import java.util.regex.Pattern;
import javax.tools.JavaCompiler;
import javax.tools.ToolProvider;

/** README.md: its example compiles and prints what is told, and no call or test is left out. */
public final class ReadmeTest {
    private static final Path README = Path.of("README.md");
    private static final Path TESTS = Path.of("src/test/java");

    private ReadmeTest() {
    }

    public static void main(String[] args) throws IOException, ReflectiveOperationException {
        String text = Files.readString(README);
        Check.same("what the example prints", block(text, "text"), printed(block(text, "java")));
        calls(text);
        tests(text);
        Check.end("ReadmeTest");
    }

    /** The first block of a kind, without its fences. */
    private static String block(String text, String kind) {
        Matcher m = Pattern.compile("(?ms)^```" + kind + "\n(.*?)^```$").matcher(text);
        Check.due("a block of " + kind, true, m.find());
        return m.group(1);
    }

    private static String printed(String example) throws IOException, ReflectiveOperationException {
        Path room = Files.createTempDirectory("readme");
        Path file = room.resolve("Example.java");
        Path made = room.resolve("Example.class");
        try {
            Files.writeString(file, example);
            JavaCompiler compiler = ToolProvider.getSystemJavaCompiler();
            int faults = compiler.run(null, null, null, "-Xlint:all", "-Werror", "-cp", System.getProperty("java.class.path"),
                    "-d", room.toString(), file.toString());
            Check.due("the example compiles", 0, faults);
            return faults == 0 ? run(room) : "";
        } finally {
            Files.deleteIfExists(made);
            Files.deleteIfExists(file);
            Files.deleteIfExists(room);
        }
    }

    private static String run(Path room) throws IOException, ReflectiveOperationException {
        ByteArrayOutputStream bytes = new ByteArrayOutputStream();
        PrintStream ahead = System.out;
        try (URLClassLoader loader = new URLClassLoader(new URL[] {room.toUri().toURL()});
                PrintStream out = new PrintStream(bytes, true, StandardCharsets.UTF_8)) {
            System.setOut(out);
            Method main = loader.loadClass("Example").getMethod("main", String[].class);
            main.invoke(null, (Object) new String[0]);
        } finally {
            System.setOut(ahead);
        }
        return bytes.toString(StandardCharsets.UTF_8).replace(System.lineSeparator(), "\n");
    }

    /** Each call stands in the table of calls with the names that the document gives its parameters. */
    private static void calls(String text) {
        for (String line : Face.LINES) {
            Matcher m = Pattern.compile("public (?:int|boolean) (\\w+)\\((.*)\\).*;").matcher(line);
            if (m.matches()) {
                String call = "`" + m.group(1) + "(" + m.group(2).replaceAll("(int|long|boolean) ", "") + ")`";
                Check.due("the page names " + call, true, text.contains(call));
            }
        }
    }

    private static void tests(String text) throws IOException {
        try (DirectoryStream<Path> files = Files.newDirectoryStream(TESTS, "*Test.java")) {
            for (Path file : files) {
                String name = file.getFileName().toString().replace(".java", "");
                Check.due("the page names " + name, true, text.contains("| `" + name + "` |"));
            }
        }
        Matcher m = Pattern.compile("(?m)^\\| `(\\w+Test)` \\|").matcher(text);
        while (m.find()) {
            Check.due(m.group(1) + " is there", true, Files.exists(TESTS.resolve(m.group(1) + ".java")));
        }
    }
}
