import java.io.ByteArrayOutputStream;
import java.io.PrintStream;
import java.net.URL;
import java.net.URLClassLoader;
import java.nio.file.Files;
import java.nio.file.Path;
import java.util.ArrayList;
import java.util.List;
import java.util.TreeSet;
import javax.tools.ToolProvider;

/** README.md: its sample compiles as it stands there and prints what stands there; it names every call and test. */
public final class ReadmeTest {
    public static void main(String[] args) throws Exception {
        List<String> readme = Files.readAllLines(Path.of("README.md"));
        sample(readme);
        allIsNamed(String.join("\n", readme));
        Check.end("ReadmeTest");
    }

    private static void sample(List<String> readme) throws Exception {
        Path folder = Files.createTempDirectory("readme");
        Path source = folder.resolve("Sample.java");
        Path made = folder.resolve("Sample.class");
        Files.writeString(source, blockOf(readme, "```java"));
        int fit = ToolProvider.getSystemJavaCompiler().run(null, null, null, "-d", folder.toString(),
                "-cp", System.getProperty("java.class.path"), source.toString());
        Check.due("compiling the sample", fit, 0);
        if (fit == 0) {
            Check.due("what the sample prints", outputOf(folder), blockOf(readme, "```text"));
        }
        for (Path each : new Path[] {source, made, folder}) {
            Files.deleteIfExists(each);
        }
    }

    private static String outputOf(Path folder) throws Exception {
        ByteArrayOutputStream printed = new ByteArrayOutputStream();
        PrintStream usual = System.out;
        try (URLClassLoader loader = new URLClassLoader(new URL[] {folder.toUri().toURL()})) {
            System.setOut(new PrintStream(printed, true));
            loader.loadClass("Sample").getMethod("main", String[].class).invoke(null, (Object) new String[0]);
        } finally {
            System.setOut(usual);
        }
        return printed.toString().replace(System.lineSeparator(), "\n");
    }

    /** The lines of the first block that begins so. */
    private static String blockOf(List<String> lines, String mark) {
        int from = lines.indexOf(mark) + 1;
        Check.yes("a block " + mark, from > 0);
        List<String> block = new ArrayList<>();
        for (int i = from; i < lines.size() && !lines.get(i).equals("```"); i++) {
            block.add(lines.get(i));
        }
        return String.join("\n", block) + "\n";
    }

    private static void allIsNamed(String readme) throws Exception {
        for (var method : RecordClaims.class.getDeclaredMethods()) {
            String name = method.getName();
            boolean isPublic = java.lang.reflect.Modifier.isPublic(method.getModifiers());
            Check.yes("README.md names " + name, !isPublic || readme.matches("(?s).*`" + name + "[`(].*"));
        }
        TreeSet<String> tests = new TreeSet<>();
        try (var files = Files.list(Path.of("src/test/java"))) {
            files.map(f -> f.getFileName().toString().replace(".java", "")).filter(n -> n.endsWith("Test")).forEach(tests::add);
        }
        Check.yes("there are tests", tests.size() > 1);
        for (String test : tests) {
            Check.yes("README.md names " + test, readme.contains("| " + test + " |"));
        }
    }
}
