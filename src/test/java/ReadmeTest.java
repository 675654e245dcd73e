import java.io.File;
import java.io.IOException;
import java.lang.reflect.Method;
import java.net.URL;
import java.net.URLClassLoader;
import java.nio.file.Files;
import java.nio.file.Path;
import java.util.ArrayList;
import java.util.List;
import java.util.Set;
import java.util.TreeSet;
import java.util.regex.Matcher;
import java.util.regex.Pattern;
import javax.tools.ToolProvider;

/**
 * What README.md says is so: its examples compile as they stand and answer what stands behind them,
 * every call has one, and the tests that it names are those that there are.
 */
public final class ReadmeTest {
    private static final Path BUILT = Path.of("build/readme");
    private static final Pattern EXAMPLE = Pattern.compile("(x\\.(\\w+)\\(.*\\)); +// (-?\\d+|[A-Z]+)(: .*)?");

    private static final List<String> calls = new ArrayList<>();
    private static final List<Integer> due = new ArrayList<>();

    private ReadmeTest() {
    }

    public static void main(String[] args) throws Exception {
        String page = Files.readString(Path.of("README.md"));
        List<Integer> answers = run(compiled(blocks(page, "java")));
        Check.due("how many examples answer", answers.size(), due.size());
        for (int i = 0; i < answers.size() && i < due.size(); i++) {
            Check.due(calls.get(i), answers.get(i), due.get(i));
        }
        everyCallHasOne(page);
        theRefusals(page);
        theTests(page);
        theCommands(page);
        Check.end();
    }

    private static List<String> blocks(String page, String kind) {
        List<String> found = new ArrayList<>();
        Matcher block = Pattern.compile("(?s)```" + kind + "\n(.*?)```").matcher(page);
        while (block.find()) {
            found.add(block.group(1));
        }
        Check.holds("there are examples of " + kind, !found.isEmpty());
        return found;
    }

    /** The blocks one behind the other, each example handing on its answer. */
    private static Path compiled(List<String> blocks) throws IOException {
        StringBuilder body = new StringBuilder();
        for (String line : String.join("", blocks).split("\n")) {
            Matcher example = EXAMPLE.matcher(line);
            if (example.matches()) {
                calls.add(example.group(1));
                due.add(number(example.group(3)));
                body.append("answers.add(").append(example.group(1)).append(");\n");
            } else {
                Check.holds("an answer stands behind " + line, !line.startsWith("x."));
                body.append(line).append('\n');
            }
        }
        Path file = BUILT.resolve("ReadmeExamples.java");
        Files.createDirectories(BUILT);
        Files.writeString(file, "public final class ReadmeExamples {\n"
            + "public static void run(java.util.List<Integer> answers) {\n" + body + "}\n}\n");
        return file;
    }

    private static int number(String answer) {
        switch (answer) {
            case "NONE": return RopeWords.NONE;
            case "UNKNOWN": return RopeWords.UNKNOWN;
            case "OUTSIDE": return RopeWords.OUTSIDE;
            case "NOT": return RopeWords.NOT;
            case "FULL": return RopeWords.FULL;
            default: return Integer.parseInt(answer);
        }
    }

    private static List<Integer> run(Path file) throws Exception {
        List<Integer> answers = new ArrayList<>();
        String classes = System.getProperty("java.class.path");
        int failed = ToolProvider.getSystemJavaCompiler().run(null, null, null, "-cp", classes, "-d", BUILT.toString(), file.toString());
        Check.due("the examples do not compile", failed, 0);
        if (failed == 0) {
            try (URLClassLoader loader = new URLClassLoader(new URL[] {BUILT.toUri().toURL()})) {
                loader.loadClass("ReadmeExamples").getMethod("run", List.class).invoke(null, answers);
            }
        }
        return answers;
    }

    private static void everyCallHasOne(String page) {
        for (Method m : RopeWords.class.getDeclaredMethods()) {
            boolean isFace = java.lang.reflect.Modifier.isPublic(m.getModifiers());
            Check.holds("an example of " + m.getName(), !isFace || page.contains("x." + m.getName() + "("));
        }
        Check.holds("the examples stay within 512 calls", due.size() + 250 < 512);
    }

    private static void theRefusals(String page) {
        int rows = 0;
        Matcher row = Pattern.compile("\\| `([A-Z]+)` \\| (-\\d+) \\|").matcher(page);
        while (row.find()) {
            rows++;
            Check.due(row.group(1), number(row.group(1)), Integer.parseInt(row.group(2)));
            Check.due(row.group(1) + " stands in its place", number(row.group(1)), RopeWords.UNKNOWN + 1 - rows);
        }
        Check.due("refusals", rows, 4);
    }

    private static void theTests(String page) {
        Set<String> named = new TreeSet<>();
        Matcher test = Pattern.compile("\\b[A-Z]\\w*Test\\b").matcher(page);
        while (test.find()) {
            named.add(test.group());
        }
        Set<String> there = new TreeSet<>();
        for (String name : new File("src/test/java").list()) {
            if (name.endsWith("Test.java")) {
                there.add(name.replace(".java", ""));
            }
        }
        Check.holds("named are " + named + ", there are " + there, named.equals(there));
    }

    /** All but .ci/run, which runs this test itself. */
    private static void theCommands(String page) throws IOException, InterruptedException {
        for (String block : blocks(page, "sh")) {
            if (block.equals(".ci/run\n")) {
                Check.holds(".ci/run can be run", Files.isExecutable(Path.of(".ci/run")));
            } else {
                Process shell = new ProcessBuilder("sh", "-e", "-c", block).redirectErrorStream(true).start();
                String told = new String(shell.getInputStream().readAllBytes());
                Check.due(block + told, shell.waitFor(), 0);
            }
        }
    }
}
