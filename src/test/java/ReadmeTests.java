import java.io.ByteArrayOutputStream;
import java.io.IOException;
import java.io.PrintStream;
import java.nio.charset.StandardCharsets;
import java.nio.file.Files;
import java.nio.file.Path;
import java.util.List;
import java.util.regex.Matcher;
import java.util.regex.Pattern;
import javax.tools.JavaCompiler;
import javax.tools.StandardJavaFileManager;
import javax.tools.ToolProvider;

/** README.md's program compiles with the class, and says what README.md says that it does. */
public final class ReadmeTests {
    private static final Path README = Path.of("README.md");

    private ReadmeTests() {}

    public static void main(String[] args) throws IOException, ReflectiveOperationException {
        String readme = Files.readString(README);
        String program = block(readme, "java");
        String[] said = run(program).split("\n");
        String[] due = block(readme, "text").split("\n");
        Check.due("README.md: how many lines are said", said.length, due.length);
        for (int i = 0; i < said.length; i++) {
            Check.holds("README.md: \"" + said[i] + "\" is said there", i < due.length && said[i].equals(due[i]));
        }
        Check.end();
    }

    private static String block(String readme, String sort) {
        Matcher found = Pattern.compile("^```" + sort + "\n(.*?)^```$", Pattern.MULTILINE | Pattern.DOTALL).matcher(readme);
        return found.find() ? found.group(1) : "";
    }

    private static String run(String program) throws IOException, ReflectiveOperationException {
        Path folder = Files.createTempDirectory("readme");
        Path source = folder.resolve("Evening.java");
        Path compiled = folder.resolve("Evening.class");
        PrintStream before = System.out;
        ByteArrayOutputStream said = new ByteArrayOutputStream();
        try {
            Files.writeString(source, program);
            if (!compiles(source, folder)) return "it does not compile";
            System.setOut(new PrintStream(said, true, StandardCharsets.UTF_8));
            runMain(folder);
        } finally {
            System.setOut(before);
            for (Path left : List.of(source, compiled, folder)) Files.deleteIfExists(left);
        }
        return said.toString(StandardCharsets.UTF_8);
    }

    private static boolean compiles(Path source, Path folder) throws IOException {
        JavaCompiler compiler = ToolProvider.getSystemJavaCompiler();
        try (StandardJavaFileManager files = compiler.getStandardFileManager(null, null, null)) {
            List<String> options = List.of("-cp", System.getProperty("java.class.path"), "-d", folder.toString());
            return compiler.getTask(null, files, null, options, null, files.getJavaFileObjects(source)).call();
        }
    }

    private static void runMain(Path folder) throws IOException, ReflectiveOperationException {
        try (java.net.URLClassLoader loader = new java.net.URLClassLoader(new java.net.URL[] {folder.toUri().toURL()})) {
            loader.loadClass("Evening").getMethod("main", String[].class).invoke(null, (Object) new String[0]);
        }
    }
}
