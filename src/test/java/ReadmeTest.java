import java.io.IOException;
import java.net.URL;
import java.net.URLClassLoader;
import java.nio.file.Files;
import java.nio.file.Path;
import java.util.ArrayList;
import java.util.List;
import java.util.regex.Matcher;
import java.util.regex.Pattern;
import java.util.stream.Stream;
import javax.tools.ToolProvider;

/** The examples of README.md compile, and each call there answers what is written beside it. */
public final class ReadmeTest {
    private static final Due due = new Due();
    private static final Pattern BLOCK = Pattern.compile("```java\n(.*?)```", Pattern.DOTALL);
    private static final Pattern CALL = Pattern.compile("(x\\.(\\w+)\\(.*\\));\\s+// (-?\\d+)(\\s.*)?");
    private static final List<String> shown = new ArrayList<>();

    public static void main(String[] args) throws IOException, ReflectiveOperationException {
        String readme = Files.readString(Path.of("README.md"));
        Matcher blocks = BLOCK.matcher(readme);
        int found = 0;
        while (blocks.find()) {
            found++;
            example(blocks.group(1));
        }
        due.same("examples", found, 2);
        everyCallIsShown();
        everyTestIsTold(readme);
        due.holds("the command that runs all tests", readme.contains("```sh\n.ci/run\n```"));
        due.end();
    }

    private static void example(String block) throws IOException, ReflectiveOperationException {
        List<String> calls = new ArrayList<>();
        List<Long> answers = new ArrayList<>();
        StringBuilder body = new StringBuilder();
        for (String line : block.split("\n")) {
            Matcher call = CALL.matcher(line);
            if (call.matches()) {
                calls.add(call.group(1));
                answers.add(Long.parseLong(call.group(3)));
                shown.add(call.group(2));
                body.append("got.add((long) ").append(call.group(1)).append(");\n");
            } else {
                due.holds("no answer beside: " + line, !line.startsWith("x."));
                body.append(line).append('\n');
            }
        }
        List<?> got = run(body.toString());
        due.same("calls of an example", got.size(), calls.size());
        for (int i = 0; i < got.size(); i++) {
            due.same("README: " + calls.get(i), (Long) got.get(i), answers.get(i));
        }
    }

    private static List<?> run(String body) throws IOException, ReflectiveOperationException {
        Path folder = Files.createTempDirectory("readme");
        Path source = folder.resolve("Example.java");
        Files.writeString(source, "public final class Example {\npublic static java.util.List<Long> run() {\n"
            + "java.util.List<Long> got = new java.util.ArrayList<>();\n" + body + "return got;\n}\n}\n");
        int failed = ToolProvider.getSystemJavaCompiler().run(null, null, null, "-d", folder.toString(),
            "-cp", System.getProperty("java.class.path"), source.toString());
        due.same("the example compiles", failed, 0);
        try (URLClassLoader loader = new URLClassLoader(new URL[] {folder.toUri().toURL()})) {
            return failed != 0 ? List.of() : (List<?>) loader.loadClass("Example").getMethod("run").invoke(null);
        } finally {
            remove(folder);
        }
    }

    private static void remove(Path folder) throws IOException {
        try (Stream<Path> files = Files.list(folder)) {
            for (Path file : files.toList()) {
                Files.delete(file);
            }
        }
        Files.delete(folder);
    }

    private static void everyCallIsShown() {
        for (String call : Edges.names()) {
            due.holds(call + " is shown", shown.contains(call));
        }
    }

    private static void everyTestIsTold(String readme) throws IOException {
        try (Stream<Path> files = Files.list(Path.of("src/test/java"))) {
            for (Path file : files.toList()) {
                String name = file.getFileName().toString().replace(".java", "");
                due.holds(name + " is told", !name.endsWith("Test") || readme.contains("| " + name + " |"));
            }
        }
    }
}
