import java.io.ByteArrayOutputStream;
import java.io.IOException;
import java.io.PrintStream;
import java.lang.reflect.Method;
import java.lang.reflect.Modifier;
import java.net.URL;
import java.net.URLClassLoader;
import java.nio.file.Files;
import java.nio.file.Path;
import java.util.List;
import java.util.stream.Collectors;
import java.util.stream.Stream;
import javax.tools.ToolProvider;

/** README.md: its example does what it says there, and it leaves out no call, no constant and no test. */
public final class ReadmeTest {
    private static final Check IS = new Check("README.md");

    public static void main(String[] args) throws IOException, ReflectiveOperationException {
        String readme = Files.readString(Path.of("README.md"));
        String due = block(readme, "text");
        String printed = printedBy(block(readme, "java"));
        IS.due("the example, which printed\n" + printed + "and", true, !due.isEmpty() && printed.equals(due));
        namesTheFace(readme);
        namesTheTests(readme);
        Check.finish();
    }

    /** The first block of code of a language, or nothing. */
    private static String block(String readme, String language) {
        String fence = "\n```";
        int start = readme.indexOf(fence + language + "\n");
        if (start < 0) {
            return "";
        }
        int from = start + fence.length() + language.length() + 1;
        return readme.substring(from, readme.indexOf(fence, from) + 1);
    }

    private static String printedBy(String example) throws IOException, ReflectiveOperationException {
        Path folder = Files.createTempDirectory("readme");
        Path source = Files.writeString(folder.resolve("Example.java"), example);
        int failed = ToolProvider.getSystemJavaCompiler().run(null, null, null, "-cp",
                System.getProperty("java.class.path"), "-d", folder.toString(), source.toString());
        IS.due("compiling the example", 0, failed);
        String printed = failed == 0 ? run(folder) : "";
        for (String file : List.of("Example.java", "Example.class", "")) {
            Files.deleteIfExists(folder.resolve(file));
        }
        return printed;
    }

    private static String run(Path folder) throws IOException, ReflectiveOperationException {
        PrintStream console = System.out;
        ByteArrayOutputStream bytes = new ByteArrayOutputStream();
        try (URLClassLoader loader = new URLClassLoader(new URL[] {folder.toUri().toURL()})) {
            System.setOut(new PrintStream(bytes, true));
            loader.loadClass("Example").getMethod("main", String[].class).invoke(null, (Object) new String[0]);
        } finally {
            System.setOut(console);
        }
        return bytes.toString().replace(System.lineSeparator(), "\n");
    }

    private static void namesTheFace(String readme) {
        for (Method method : CausalStore.class.getDeclaredMethods()) {
            if (Modifier.isPublic(method.getModifiers())) {
                IS.due("a row of " + method.getName(), true, readme.contains("| `" + method.getName() + "("));
            }
        }
        for (String constant : List.of("`BAD` (-1)", "`BUSY` (-2)", "`FULL` (-3)", "`NONE` (-4)")) {
            IS.due("constant " + constant, true, readme.contains(constant));
        }
    }

    private static void namesTheTests(String readme) throws IOException {
        try (Stream<Path> files = Files.list(Path.of("src/test/java"))) {
            for (Path file : files.filter(path -> path.toString().endsWith("Test.java")).collect(Collectors.toList())) {
                String name = file.getFileName().toString().replace(".java", "");
                IS.due("a row of " + name, true, readme.contains("| `" + name + "`"));
            }
        }
    }
}
