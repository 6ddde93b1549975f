import java.io.IOException;
import java.lang.reflect.InvocationTargetException;
import java.net.URL;
import java.net.URLClassLoader;
import java.nio.file.Files;
import java.nio.file.Path;
import java.util.ArrayList;
import java.util.List;
import java.util.TreeSet;
import java.util.regex.Matcher;
import java.util.regex.Pattern;
import java.util.stream.Stream;
import javax.tools.ToolProvider;

/**
 * README.md tells what is so: its example answers what stands behind its calls, its commands for the tests are the ones
 * that .ci/run runs, and its table has every test.
 */
public final class ReadmeTest {
    /** A call of the example with its answer behind it: house.visible(0); // 1 row */
    private static final Pattern ANSWERED = Pattern.compile("(house\\..*\\)); *// (-?\\d+|true|false)\\b.*");

    public static void main(String[] args) throws IOException, ReflectiveOperationException {
        List<String> readme = Files.readAllLines(Path.of("README.md"));
        commands(readme);
        table(readme);
        example(block(readme, "java"));
        Check.end();
    }

    /** The lines of the one block of a language. */
    private static List<String> block(List<String> readme, String language) {
        List<String> lines = new ArrayList<>();
        boolean inside = false;
        int blocks = 0;
        for (String line : readme) {
            if (line.equals("```" + language)) {
                inside = true;
                blocks++;
            } else if (line.startsWith("```")) {
                inside = false;
            } else if (inside) {
                lines.add(line);
            }
        }
        Check.same("blocks of " + language, blocks, 1);
        return lines;
    }

    private static void commands(List<String> readme) throws IOException {
        List<String> due = new ArrayList<>();
        for (String line : Files.readAllLines(Path.of(".ci/run"))) {
            String command = line.strip().replaceAll(" (\\|\\| exit 1|&&)$", "");
            if (command.matches("(javac|java|rm) .*")) {
                due.add(command);
            }
        }
        Check.same("commands of .ci/run", due.size(), 5);
        Check.same("commands of README.md", String.join("\n  ", block(readme, "sh")), String.join("\n  ", due));
    }

    private static void table(List<String> readme) throws IOException {
        TreeSet<String> told = new TreeSet<>();
        for (String line : readme) {
            Matcher row = Pattern.compile("\\| `(\\w+Test)` \\|.*").matcher(line);
            if (row.matches()) {
                Check.same(row.group(1) + " is told once", told.add(row.group(1)) ? 1 : 0, 1);
            }
        }
        TreeSet<String> tests = new TreeSet<>();
        try (Stream<Path> files = Files.list(Path.of("src/test/java"))) {
            files.map(f -> f.getFileName().toString()).filter(f -> f.endsWith("Test.java"))
                .forEach(f -> tests.add(f.replace(".java", "")));
        }
        Check.same("tests of README.md", told.toString(), tests.toString());
    }

    private static void example(List<String> lines) throws IOException, ReflectiveOperationException {
        StringBuilder body = new StringBuilder();
        List<String> calls = new ArrayList<>();
        List<String> due = new ArrayList<>();
        for (String line : lines) {
            Matcher call = ANSWERED.matcher(line.strip());
            if (call.matches()) {
                calls.add(call.group(1));
                due.add(call.group(2));
                body.append("answers.add(").append(call.group(1)).append(");\n");
            } else {
                body.append(line).append('\n');
            }
        }
        Check.same("the example tells answers", calls.size() > 5 ? 1 : 0, 1);
        List<Object> answers = answersOf(body.toString());
        for (int i = 0; i < calls.size(); i++) {
            Check.same(calls.get(i), i < answers.size() ? answers.get(i).toString() : "nothing", due.get(i));
        }
    }

    private static List<Object> answersOf(String body) throws IOException, ReflectiveOperationException {
        Path folder = Files.createTempDirectory("readme");
        Path file = folder.resolve("Example.java");
        Files.writeString(file, "public class Example { public static void run(java.util.List<Object> answers) {\n" + body + "}}\n");
        int exit = ToolProvider.getSystemJavaCompiler().run(null, null, null,
            "-cp", System.getProperty("java.class.path"), "-d", folder.toString(), file.toString());
        Check.same("the example compiles", exit, 0);
        List<Object> answers = new ArrayList<>();
        if (exit == 0) {
            try (URLClassLoader loader = new URLClassLoader(new URL[] {folder.toUri().toURL()})) {
                loader.loadClass("Example").getMethod("run", List.class).invoke(null, answers);
            } catch (InvocationTargetException e) {
                answers.add("threw " + e.getCause());
            }
        }
        Files.deleteIfExists(folder.resolve("Example.class"));
        Files.delete(file);
        Files.delete(folder);
        return answers;
    }
}
