import java.io.IOException;
import java.lang.reflect.Method;
import java.lang.reflect.Modifier;
import java.nio.file.Files;
import java.nio.file.Path;
import java.util.ArrayList;
import java.util.Comparator;
import java.util.List;
import java.util.regex.Matcher;
import java.util.regex.Pattern;
import java.util.stream.Stream;

/** Runs the example and the commands of README.md as they stand there, and looks whether it names all that is here. */
public final class ReadmeTest {
    private static final Path SOURCES = Path.of("src");
    private static final Path TESTS = SOURCES.resolve("test").resolve("java");
    private static final Pattern BLOCK = Pattern.compile("(?m)^```(\\w+)\\n((?s:.*?))^```$");
    private static final Pattern PRINTED = Pattern.compile(" +System\\.out\\.println\\(.*\\); +// (.*)");
    private static final Pattern PATH = Pattern.compile("`((?:\\.\\./|src/)[\\w/.]*?)`");

    private static final Check CHECK = new Check();

    public static void main(String[] args) throws IOException, InterruptedException {
        String readme = Files.readString(Path.of("README.md"));
        exampleAnswersWhatIsSaidBesideIt(readme);
        commandsForOneTestWork(readme);
        allTestsAreRunByOneCommand(readme);
        everyCallIsNamed(readme);
        everyTestIsNamed(readme);
        everyPathStands(readme);
        CHECK.end("ReadmeTest");
    }

    private static void exampleAnswersWhatIsSaidBesideIt(String readme) throws IOException, InterruptedException {
        List<String> examples = blocks(readme, "java");
        CHECK.equal("the examples", examples.size(), 1);
        List<String> due = new ArrayList<>();
        for (String line : examples.get(0).split("\n")) {
            Matcher printed = PRINTED.matcher(line);
            if (printed.matches()) {
                due.add(printed.group(1));
            } else {
                CHECK.holds("says what it prints: " + line, !line.contains("System."));
            }
        }
        CHECK.holds("the example prints something", !due.isEmpty());
        String got = outputOf(examples.get(0), blockWith(readme, "Example.java"));
        CHECK.equal("the example", got, String.join("\n", due) + "\n");
    }

    private static void commandsForOneTestWork(String readme) throws IOException, InterruptedException {
        String got = outputOf("", blockWith(readme, "src/test/java"));
        CHECK.holds("one test alone: " + got, got.matches("\\w+Test: \\d+ checks, 0 wrong\n"));
    }

    private static void allTestsAreRunByOneCommand(String readme) {
        CHECK.equal("the command for all tests", blockWith(readme, ".ci"), ".ci/run\n");
        CHECK.holds("it can be run", Files.isExecutable(Path.of(".ci", "run")));
    }

    private static void everyCallIsNamed(String readme) {
        for (Method method : LeafMint.class.getDeclaredMethods()) {
            if (Modifier.isPublic(method.getModifiers())) {
                String row = "(?s).*\\n\\|[^\\n]*`" + method.getName() + "`.*";
                CHECK.holds("the table of calls names " + method.getName(), readme.matches(row));
            }
        }
    }

    private static void everyTestIsNamed(String readme) throws IOException {
        try (Stream<Path> files = Files.list(TESTS)) {
            for (Path file : files.toList()) {
                String name = file.getFileName().toString();
                boolean isNamed = readme.contains("`" + name + "`")
                        || readme.contains("`" + file + "`: ")
                        || name.endsWith("Boundaries.java");
                CHECK.holds("README.md tells of " + name, isNamed);
            }
        }
    }

    private static void everyPathStands(String readme) {
        Matcher path = PATH.matcher(readme);
        while (path.find()) {
            CHECK.holds(path.group(1) + " is here", Files.exists(Path.of(path.group(1))));
        }
    }

    private static List<String> blocks(String readme, String language) {
        List<String> found = new ArrayList<>();
        Matcher block = BLOCK.matcher(readme);
        while (block.find()) {
            if (block.group(1).equals(language)) {
                found.add(block.group(2));
            }
        }
        return found;
    }

    private static String blockWith(String readme, String part) {
        List<String> found = new ArrayList<>();
        for (String commands : blocks(readme, "sh")) {
            if (commands.contains(part)) {
                found.add(commands);
            }
        }
        CHECK.equal("the blocks of commands with " + part, found.size(), 1);
        return found.isEmpty() ? "" : found.get(0);
    }

    /** What the commands print in a directory that holds a copy of the sources, and the example beside them. */
    private static String outputOf(String example, String commands) throws IOException, InterruptedException {
        Path copy = Files.createTempDirectory("readme");
        try {
            copySources(copy);
            Files.writeString(copy.resolve("Example.java"), example);
            Process process = new ProcessBuilder("bash", "-e", "-c", commands)
                    .directory(copy.toFile())
                    .redirectError(ProcessBuilder.Redirect.INHERIT)
                    .start();
            process.getOutputStream().close();
            String output = new String(process.getInputStream().readAllBytes());
            CHECK.equal("the exit code of " + commands.strip(), process.waitFor(), 0);
            return output;
        } finally {
            remove(copy);
        }
    }

    private static void copySources(Path copy) throws IOException {
        try (Stream<Path> sources = Files.walk(SOURCES)) {
            for (Path source : sources.toList()) {
                Files.copy(source, copy.resolve(source));
            }
        }
    }

    private static void remove(Path directory) throws IOException {
        try (Stream<Path> all = Files.walk(directory)) {
            for (Path path : all.sorted(Comparator.reverseOrder()).toList()) {
                Files.delete(path);
            }
        }
    }
}
