import java.io.ByteArrayOutputStream;
import java.io.IOException;
import java.io.PrintStream;
import java.lang.reflect.Method;
import java.lang.reflect.Modifier;
import java.net.URL;
import java.net.URLClassLoader;
import java.nio.file.Files;
import java.nio.file.Path;
import javax.tools.ToolProvider;

/** The example of README.md does what README.md says, and each call and constant stands there. */
public final class ReadmeTest {
    private static final Check check = new Check();

    public static void main(String[] args) throws Exception {
        String readme = Files.readString(Path.of("README.md"));
        example(block(readme, "java"), block(readme, "text"));
        calls(readme);
        check.end();
    }

    private static String block(String readme, String kind) {
        String begins = "```" + kind + "\n";
        int from = readme.indexOf(begins);
        int to = readme.indexOf("```", from + begins.length());
        check.holds("README.md has a block of " + kind, from >= 0 && to >= 0);
        return from >= 0 && to >= 0 ? readme.substring(from + begins.length(), to) : "";
    }

    private static void example(String code, String printed) throws Exception {
        check.promise("README's example");
        Path dir = Files.createTempDirectory("readme");
        Path source = dir.resolve("Example.java");
        Files.writeString(source, "public class Example {\npublic static void main(String[] args) {\n" + code + "}\n}\n");
        int failed = ToolProvider.getSystemJavaCompiler().run(null, null, null,
                "-cp", System.getProperty("java.class.path"), "-d", dir.toString(), source.toString());
        check.is(failed, 0);
        if (failed == 0) {
            String got = run(dir);
            check.holds("it prints\n" + got, got.equals(printed));
        }
        Files.deleteIfExists(dir.resolve("Example.class"));
        Files.deleteIfExists(source);
        Files.deleteIfExists(dir);
    }

    private static String run(Path dir) throws IOException, ReflectiveOperationException {
        PrintStream out = System.out;
        ByteArrayOutputStream got = new ByteArrayOutputStream();
        try (URLClassLoader loader = new URLClassLoader(new URL[] {dir.toUri().toURL()})) {
            Method main = loader.loadClass("Example").getMethod("main", String[].class);
            System.setOut(new PrintStream(got, true));
            main.invoke(null, (Object) new String[0]);
        } finally {
            System.setOut(out);
        }
        return got.toString().replace(System.lineSeparator(), "\n");
    }

    private static void calls(String readme) {
        check.promise("README's calls");
        for (Method m : DueWheels.class.getDeclaredMethods()) {
            if (Modifier.isPublic(m.getModifiers())) {
                check.holds("there is no " + m.getName(), readme.contains("| `" + m.getName() + "("));
            }
        }
        for (String constant : new String[] {"BAD", "NO", "FULL", "RING", "NONE", "MOST"}) {
            check.holds("there is no " + constant, readme.contains("`" + constant + "`"));
        }
    }
}
