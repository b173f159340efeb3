import java.io.IOException;
import java.net.URL;
import java.net.URLClassLoader;
import java.nio.file.Files;
import java.nio.file.Path;
import java.util.ArrayList;
import java.util.List;
import java.util.TreeSet;
import java.util.regex.Matcher;
import java.util.regex.Pattern;
import java.util.stream.Stream;
import javax.tools.ToolProvider;

/** README.md's example compiles as it stands and answers what it says; its list of tests is whole. */
public final class ReadmeTest {
    private static final Path README = Path.of("README.md");
    private static final Path TESTS = Path.of("src/test/java");
    private static final Pattern EXAMPLE = Pattern.compile("```java\n(.*?)```", Pattern.DOTALL);
    private static final Pattern ANSWER = Pattern.compile("^(x\\.\\w+\\(.*?\\)); +// (-?\\d+):", Pattern.MULTILINE);
    private static final Pattern TEST = Pattern.compile("\\b[A-Z]\\w*Test\\b");

    private static final Checks c = new Checks();

    public static void main(String[] args) throws IOException, ReflectiveOperationException {
        String readme = Files.readString(README);
        example(readme);
        names(readme);
        c.finish();
    }

    private static void example(String readme) throws IOException, ReflectiveOperationException {
        c.part("example");
        Matcher example = EXAMPLE.matcher(readme);
        c.isTrue("there is one", example.find());
        String code = example.group(1);
        List<String> calls = new ArrayList<>();
        List<Integer> due = new ArrayList<>();
        Matcher answer = ANSWER.matcher(code);
        while (answer.find()) {
            calls.add(answer.group(1));
            due.add(Integer.parseInt(answer.group(2)));
        }
        long told = code.lines().filter(line -> line.startsWith("x.")).count();
        c.due("calls whose answer is told", calls.size(), told);
        c.isTrue("it has calls", told > 0);
        List<?> got = answersOf(code, ANSWER.matcher(code).replaceAll("answers.add($1); //"));
        for (int i = 0; i < due.size(); i++) {
            c.due(calls.get(i), (Integer) got.get(i), due.get(i));
        }
    }

    /** Compiles the example, as it stands and with its answers gathered, and runs the latter. */
    private static List<?> answersOf(String code, String gathering) throws IOException, ReflectiveOperationException {
        Path folder = Files.createTempDirectory("readme");
        Path source = folder.resolve("Example.java");
        Files.writeString(source, "public final class Example {\n"
            + "public static void asItStands() {\n" + code + "}\n"
            + "public static java.util.List<Integer> answers() {\n"
            + "java.util.List<Integer> answers = new java.util.ArrayList<>();\n" + gathering
            + "return answers;\n}\n}\n");
        int failed = ToolProvider.getSystemJavaCompiler().run(null, null, null,
            "-cp", System.getProperty("java.class.path"), "-d", folder.toString(), source.toString());
        c.due("compiling it", failed, 0);
        try (URLClassLoader loader = new URLClassLoader(new URL[] {folder.toUri().toURL()})) {
            return (List<?>) loader.loadClass("Example").getMethod("answers").invoke(null);
        } finally {
            Files.deleteIfExists(folder.resolve("Example.class"));
            Files.delete(source);
            Files.delete(folder);
        }
    }

    private static void names(String readme) throws IOException {
        c.part("tests");
        TreeSet<String> named = new TreeSet<>();
        Matcher test = TEST.matcher(readme);
        while (test.find()) {
            named.add(test.group());
        }
        TreeSet<String> there = new TreeSet<>();
        try (Stream<Path> files = Files.list(TESTS)) {
            files.map(file -> file.getFileName().toString().replace(".java", ""))
                .filter(name -> name.endsWith("Test")).forEach(there::add);
        }
        c.isTrue(there + " are named: " + named, named.equals(there));
    }
}
