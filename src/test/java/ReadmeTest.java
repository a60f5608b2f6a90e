import java.io.ByteArrayOutputStream;
import java.io.File;
import java.io.IOException;
import java.io.PrintStream;
import java.net.URL;
import java.net.URLClassLoader;
import java.nio.charset.StandardCharsets;
import java.nio.file.Files;
import java.nio.file.Path;
import java.util.regex.Matcher;
import java.util.regex.Pattern;
import javax.tools.ToolProvider;

/** The program in README.md prints what README.md says. */
final class ReadmeTest {

    private static final Pattern PROGRAM = Pattern.compile("```java\n(.*?)```", Pattern.DOTALL);
    private static final Pattern OUTPUT = Pattern.compile("```text\n(.*?)```", Pattern.DOTALL);

    public static void main(String[] args) throws Exception {
        if (ToolProvider.getSystemJavaCompiler() == null) {
            System.out.println("the program in README.md was not run: this java has no compiler");
            return;
        }
        Check check = new Check();
        String readme = Files.readString(Path.of(System.getProperty("root", "."), "README.md"));
        Path folder = Files.createTempDirectory("readme");
        try {
            check.same("the program in README.md", outputOf(part(readme, PROGRAM), folder), part(readme, OUTPUT));
        } finally {
            remove(folder);
        }
        check.end();
    }

    private static String part(String readme, Pattern pattern) {
        Matcher matcher = pattern.matcher(readme);
        return matcher.find() ? matcher.group(1) : "";
    }

    private static String outputOf(String program, Path folder) throws Exception {
        Path source = Files.writeString(folder.resolve("Crossing.java"), program);
        int failed = ToolProvider.getSystemJavaCompiler().run(null, null, null, "-Xlint:all", "-Werror",
                "-cp", System.getProperty("java.class.path"), "-d", folder.toString(), source.toString());
        if (failed != 0) {
            return "it does not compile";
        }
        ByteArrayOutputStream bytes = new ByteArrayOutputStream();
        PrintStream before = System.out;
        try (URLClassLoader loader = new URLClassLoader(new URL[] {folder.toUri().toURL()});
                PrintStream out = new PrintStream(bytes, true, StandardCharsets.US_ASCII)) {
            System.setOut(out);
            loader.loadClass("Crossing").getMethod("main", String[].class).invoke(null, (Object) new String[0]);
        } finally {
            System.setOut(before);
        }
        return bytes.toString(StandardCharsets.US_ASCII).replace(System.lineSeparator(), "\n");
    }

    private static void remove(Path folder) throws IOException {
        File[] files = folder.toFile().listFiles();
        for (File file : files == null ? new File[0] : files) {
            Files.delete(file.toPath());
        }
        Files.delete(folder);
    }
}
