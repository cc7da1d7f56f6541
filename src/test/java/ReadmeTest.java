import java.io.ByteArrayOutputStream;
import java.io.IOException;
import java.io.PrintStream;
import java.lang.reflect.Method;
import java.net.URL;
import java.net.URLClassLoader;
import java.nio.file.Files;
import java.nio.file.Path;
import java.util.ArrayList;
import java.util.List;
import java.util.regex.Matcher;
import java.util.regex.Pattern;
import java.util.spi.ToolProvider;

/** The program in README.md: each line that prints says behind its // which number is printed. */
public final class ReadmeTest {
    private static final Path README = Path.of("README.md");

    private static String program() throws IOException {
        Matcher m = Pattern.compile("(?s)```java\\n(.*?)```").matcher(Files.readString(README));
        return m.find() ? m.group(1) : "";
    }

    private static List<String> promised(String program) {
        List<String> numbers = new ArrayList<>();
        Matcher m = Pattern.compile("println\\(.*\\); // (\\S*?)[:,]?(\\s|$)", Pattern.MULTILINE).matcher(program);
        while (m.find()) {
            numbers.add(m.group(1));
        }
        return numbers;
    }

    private static List<String> printed(String program, Path home) throws Exception {
        Path source = Files.writeString(home.resolve("Example.java"), program);
        int failed = ToolProvider.findFirst("javac").orElseThrow().run(System.out, System.out, "-d", home.toString(),
                "-cp", System.getProperty("java.class.path"), source.toString());
        if (failed != 0) {
            return List.of("does not compile");
        }
        PrintStream usual = System.out;
        ByteArrayOutputStream out = new ByteArrayOutputStream();
        try (URLClassLoader loader = new URLClassLoader(new URL[] {home.toUri().toURL()})) {
            Method main = loader.loadClass("Example").getMethod("main", String[].class);
            System.setOut(new PrintStream(out, true));
            main.invoke(null, (Object) new String[0]);
        } finally {
            System.setOut(usual);
        }
        return out.toString().lines().toList();
    }

    private static void remove(Path home) throws IOException {
        for (String name : new String[] {"Example.java", "Example.class"}) {
            Files.deleteIfExists(home.resolve(name));
        }
        Files.deleteIfExists(home);
    }

    public static void main(String[] args) throws Exception {
        String program = program();
        List<String> due = promised(program);
        Path home = Files.createTempDirectory("readme");
        List<String> got = printed(program, home);
        remove(home);
        boolean fine = !due.isEmpty() && due.equals(got);
        System.out.println("ReadmeTest: " + due.size() + " lines, " + (fine ? "0 not as due" : "printed " + got + ", due is " + due));
        System.exit(fine ? 0 : 1);
    }
}
