import java.io.IOException;
import java.io.StringWriter;
import java.lang.reflect.InvocationTargetException;
import java.net.URL;
import java.net.URLClassLoader;
import java.nio.charset.StandardCharsets;
import java.nio.file.Files;
import java.nio.file.Path;
import java.util.ArrayList;
import java.util.List;
import java.util.regex.Matcher;
import java.util.regex.Pattern;
import java.util.stream.Stream;
import javax.tools.JavaCompiler;
import javax.tools.StandardJavaFileManager;
import javax.tools.ToolProvider;

/** The example in README.md, run as it stands there: each call answers the number that is beside it. */
final class ReadmeTest {
    /** A call of one line, and behind it what it answers. */
    private static final Pattern ANSWER = Pattern.compile("(x\\.(\\w+)\\(.*\\));\\s*// (-?\\d+): .*");

    private ReadmeTest() {
    }

    static Path project() {
        Path at = Path.of(AllTests.program).toAbsolutePath();
        for (int i = 0; i < 4; i++) at = at.getParent();
        return at;
    }

    private static List<String> example() throws IOException {
        List<String> lines = new ArrayList<>();
        boolean inside = false;
        for (String line : Files.readAllLines(project().resolve("README.md"), StandardCharsets.UTF_8)) {
            if (line.equals("```java")) inside = true;
            else if (line.equals("```")) inside = false;
            else if (inside) lines.add(line);
        }
        return lines;
    }

    /** A class whose method does what the example does, and finds each answer that is another one. */
    private static String program(List<String> lines) {
        StringBuilder s = new StringBuilder("public final class Example {\n    public static String wrong() {\n"
            + "        StringBuilder wrong = new StringBuilder();\n");
        for (String line : lines) {
            Matcher m = ANSWER.matcher(line);
            if (m.matches()) {
                s.append("        { long got = ").append(m.group(1)).append("; if (got != ").append(m.group(3))
                    .append("L) wrong.append(\"").append(m.group(1)).append(" answered \").append(got).append(\", README says ")
                    .append(m.group(3)).append("; \"); }\n");
            } else {
                s.append("        ").append(line).append('\n');
            }
        }
        return s.append("        return wrong.toString();\n    }\n}\n").toString();
    }

    private static String run(String program) throws Exception {
        Path dir = Files.createTempDirectory("readme");
        try {
            Path source = dir.resolve("Example.java");
            Files.writeString(source, program, StandardCharsets.UTF_8);
            compile(source, dir);
            try (URLClassLoader loader = new URLClassLoader(new URL[] {dir.toUri().toURL()}, HandBeasts.class.getClassLoader())) {
                return (String) loader.loadClass("Example").getMethod("wrong").invoke(null);
            } catch (InvocationTargetException e) {
                throw new AssertionError("README's example throws " + e.getCause());
            }
        } finally {
            remove(dir);
        }
    }

    private static void compile(Path source, Path dir) throws Exception {
        JavaCompiler compiler = ToolProvider.getSystemJavaCompiler();
        StringWriter said = new StringWriter();
        Path classes = Path.of(HandBeasts.class.getProtectionDomain().getCodeSource().getLocation().toURI());
        try (StandardJavaFileManager files = compiler.getStandardFileManager(null, null, StandardCharsets.UTF_8)) {
            boolean fine = compiler.getTask(said, files, null, List.of("-cp", classes.toString(), "-d", dir.toString()), null,
                files.getJavaFileObjects(source)).call();
            if (!fine) throw new AssertionError("README's example: " + said);
        }
    }

    private static void remove(Path dir) throws IOException {
        try (Stream<Path> all = Files.list(dir)) {
            for (Path file : all.toList()) Files.delete(file);
        }
        Files.delete(dir);
    }

    static void theExampleAnswersAsReadmeSays() throws Exception {
        List<String> lines = example();
        long answers = lines.stream().filter(line -> ANSWER.matcher(line).matches()).count();
        Kit.same("lines of the example without an answer", lines.size() - answers, 3);
        Kit.same("what answers otherwise", run(program(lines)), "");
    }

    static void theExampleAsksNoMoreThanIsPromised() throws IOException {
        // its loop asks seven times
        Kit.same("whether the example keeps to 512 calls", example().size() + 7 <= 512 ? 1 : 0, 1);
    }

    static void readmeSaysHowToRunTheTests() throws IOException {
        String readme = Files.readString(project().resolve("README.md"), StandardCharsets.UTF_8);
        if (!readme.contains("```sh\n.ci/run\n```")) throw new AssertionError("README.md does not say how to run the tests");
        if (!Files.isExecutable(project().resolve(".ci/run"))) throw new AssertionError(".ci/run can't be run");
    }
}
