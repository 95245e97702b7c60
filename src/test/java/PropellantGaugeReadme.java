import java.io.IOException;
import java.net.URL;
import java.net.URLClassLoader;
import java.nio.file.Files;
import java.nio.file.Path;
import java.util.ArrayList;
import java.util.Comparator;
import java.util.List;
import java.util.Set;
import java.util.TreeSet;
import java.util.regex.MatchResult;
import java.util.regex.Matcher;
import java.util.regex.Pattern;
import java.util.stream.Stream;
import javax.tools.ToolProvider;

/** README.md holds: its examples answer as they say, its commands run, and it names every test. */
public final class PropellantGaugeReadme {
    private static final Checks CHECKS = new Checks("readme");
    private static final Path README = Path.of("README.md");
    private static final Path TESTS = Path.of("src/test/java");
    private static final Pattern BLOCK = Pattern.compile("(?ms)^```(\\w+)\n(.*?)^```$");
    private static final Pattern ANSWERED = Pattern.compile(
            "(?:(?<type>int|long) (?<variable>\\w+) = )?(?<call>gauge\\.\\w+\\([^;]*\\)); +"
            + "// (?<answer>-?\\d+)(?:: (?:(?<constant>[A-Z_]{2,})\\b)?.*)?");

    private final Path directory;
    private final String readme;

    private PropellantGaugeReadme(Path directory) throws IOException {
        this.directory = directory;
        this.readme = Files.readString(README);
    }

    public static void main(String[] args) throws Exception {
        Path directory = Files.createTempDirectory("readme");
        try {
            PropellantGaugeReadme page = new PropellantGaugeReadme(directory);
            page.examplesAnswerAsTheySay();
            page.commandsRun();
            page.everyTestIsNamed();
        } finally {
            remove(directory);
        }
        CHECKS.finish();
    }

    private List<String> blocks(String language) {
        return BLOCK.matcher(readme).results().filter(block -> block.group(1).equals(language))
                .map(block -> block.group(2)).toList();
    }

    private void examplesAnswerAsTheySay() throws Exception {
        List<String> examples = blocks("java");
        CHECKS.due("there are examples", examples.isEmpty() ? 0 : 1, 1);
        for (int i = 0; i < examples.size(); i++) {
            exampleAnswersAsItSays("Example" + i, examples.get(i));
        }
    }

    private void exampleAnswersAsItSays(String name, String example) throws Exception {
        List<String> calls = new ArrayList<>();
        List<Long> due = new ArrayList<>();
        StringBuilder body = new StringBuilder();
        for (String line : example.split("\n")) {
            Matcher answered = ANSWERED.matcher(line);
            if (answered.matches()) {
                calls.add(answered.group("call"));
                due.add(Long.parseLong(answered.group("answer")));
                constantHolds(line, answered);
                body.append(recording(answered));
            } else {
                if (line.contains("gauge.") && !line.startsWith(" ")) {
                    CHECKS.fail(name + " tells no answer: " + line);
                }
                body.append(line).append('\n');
            }
        }
        CHECKS.due(name + " has calls", calls.isEmpty() ? 0 : 1, 1);
        List<?> got = run(name, body.toString());
        for (int i = 0; i < got.size() && i < due.size(); i++) {
            CHECKS.due(name + ": " + calls.get(i), (Long) got.get(i), due.get(i));
        }
    }

    /** The line's statement, with its answer added to the list of the answers. */
    private static String recording(Matcher answered) {
        if (answered.group("variable") == null) {
            return "answers.add((long) " + answered.group("call") + ");\n";
        }
        String variable = answered.group("variable");
        return answered.group("type") + " " + variable + " = " + answered.group("call") + ";\nanswers.add((long) "
                + variable + ");\n";
    }

    private static void constantHolds(String line, Matcher answered) throws ReflectiveOperationException {
        if (answered.group("constant") != null) {
            long value = PropellantGauge.class.getField(answered.group("constant")).getLong(null);
            CHECKS.due("the constant in " + line, Long.parseLong(answered.group("answer")), value);
        }
    }

    private List<?> run(String name, String body) throws Exception {
        Path source = directory.resolve(name + ".java");
        Files.writeString(source, "public class " + name + " {\n"
                + "public static java.util.List<Long> answers() {\n"
                + "java.util.List<Long> answers = new java.util.ArrayList<>();\n" + body + "return answers;\n}\n}\n");
        int compiled = ToolProvider.getSystemJavaCompiler().run(null, null, null, "-cp",
                System.getProperty("java.class.path"), "-d", directory.toString(), source.toString());
        CHECKS.due(name + " compiles", compiled, 0);
        if (compiled != 0) {
            return List.of();
        }
        try (URLClassLoader loader = new URLClassLoader(new URL[] {directory.toUri().toURL()})) {
            return (List<?>) loader.loadClass(name).getMethod("answers").invoke(null);
        }
    }

    private void commandsRun() throws Exception {
        boolean tellsHowToRunTheTests = false;
        for (String commands : blocks("sh")) {
            if (commands.equals(".ci/run\n")) {
                // This test is a part of it, so it is not run from here.
                tellsHowToRunTheTests = true;
                CHECKS.due(".ci/run can be run", Files.isExecutable(Path.of(".ci/run")) ? 1 : 0, 1);
            } else {
                CHECKS.due("the exit code of " + commands.trim(), runInACopy(commands), 0);
            }
        }
        CHECKS.due("the page tells how to run the tests", tellsHowToRunTheTests ? 1 : 0, 1);
    }

    /** Runs commands beside a copy of the sources, so that nothing is left behind in the project. */
    private int runInACopy(String commands) throws IOException, InterruptedException {
        Path copy = Files.createTempDirectory(directory, "copy");
        try (Stream<Path> files = Files.walk(Path.of("src"))) {
            for (Path file : files.toList()) {
                Files.copy(file, copy.resolve(file));
            }
        }
        return new ProcessBuilder("sh", "-e", "-c", commands).directory(copy.toFile())
                .redirectErrorStream(true).redirectOutput(copy.resolve("printed").toFile()).start().waitFor();
    }

    private void everyTestIsNamed() throws IOException {
        Set<String> named = new TreeSet<>();
        Pattern.compile("(?m)^\\| `(\\w+)` \\|").matcher(readme).results().map((MatchResult row) -> row.group(1))
                .forEach(named::add);
        Set<String> present = new TreeSet<>();
        try (Stream<Path> files = Files.list(TESTS)) {
            files.forEach(file -> present.add(file.getFileName().toString().replace(".java", "")));
        }
        if (!named.equals(present)) {
            CHECKS.fail("the page names the tests " + named + ", there are " + present);
        }
    }

    private static void remove(Path directory) throws IOException {
        try (Stream<Path> files = Files.walk(directory)) {
            for (Path file : files.sorted(Comparator.reverseOrder()).toList()) {
                Files.delete(file);
            }
        }
    }
}
