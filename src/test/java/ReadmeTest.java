import java.io.IOException;
import java.nio.file.Files;
import java.nio.file.Path;
import java.util.ArrayList;
import java.util.List;
import java.util.TreeSet;
import java.util.concurrent.TimeUnit;
import java.util.regex.Matcher;
import java.util.regex.Pattern;
import java.util.stream.Collectors;
import java.util.stream.Stream;

/** README.md works as it is written; .ci/run starts this in the project's folder, after it compiled all. */
public final class ReadmeTest {
    private static final Path PROJECT = Path.of("");
    private static final Path SCRATCH = Path.of("build/readme");
    private static final String MAIN = "src/main/java/Harbourmint.java";
    private static final String RUN_ALL = ".ci/run";

    private static final Due due = new Due();

    public static void main(String[] args) throws IOException, InterruptedException {
        String readme = Files.readString(Path.of("README.md"));
        int testsAt = readme.indexOf("\n## Tests\n");
        due.is("README.md has a part on the tests", testsAt > 0, true);
        String use = readme.substring(0, Math.max(testsAt, 0));
        example(use);
        commands(readme.substring(Math.max(testsAt, 0)));
        calls(use);
        testsAreTold(readme);
        due.end();
    }

    /** The example, saved and run as the page tells, in a folder that has the class at its place. */
    private static void example(String use) throws IOException, InterruptedException {
        Files.createDirectories(SCRATCH.resolve(MAIN).getParent());
        Files.writeString(SCRATCH.resolve(MAIN), Files.readString(Path.of(MAIN)));
        List<String> programs = blocks(use, "java");
        List<String> commands = blocks(use, "sh");
        List<String> printed = blocks(use, "text");
        due.is("programs", programs.size(), 1);
        due.is("their commands", commands.size(), 1);
        due.is("what they print", printed.size(), 1);
        if (programs.size() == 1 && commands.size() == 1 && printed.size() == 1) {
            Files.writeString(SCRATCH.resolve("Example.java"), programs.get(0));
            due.is("the example prints", run(SCRATCH, commands.get(0)), "exit code 0\n" + printed.get(0));
        }
    }

    private static void commands(String tests) throws IOException, InterruptedException {
        List<String> commands = blocks(tests, "sh");
        due.is(RUN_ALL + " is told", commands.contains(RUN_ALL + "\n"), true);
        due.is(RUN_ALL + " can be run", Files.isExecutable(Path.of(RUN_ALL)), true);
        due.is("commands to run single tests", commands.size() > 2, true);
        for (String command : commands) {
            // The run of all tests would begin this one again.
            if (!command.equals(RUN_ALL + "\n")) {
                String end = run(PROJECT, command);
                due.is(command + end, end.startsWith("exit code 0\n"), true);
            }
        }
    }

    /** Each call stands in the table, with the names that the document gives to what it takes. */
    private static void calls(String use) throws IOException {
        String document = Files.readString(Path.of("../shared/DOC.md"));
        Matcher face = Pattern.compile("(?m)^    public \\w+ (\\w+)\\(([^)]*)\\)").matcher(document);
        int found = 0;
        while (face.find()) {
            String call = face.group(1) + "(" + face.group(2).replaceAll("\\w+ (\\w+)", "$1") + ")";
            due.is("the call " + call + " is told", use.contains("\n| `" + call + "` |"), true);
            found++;
        }
        due.is("calls of the document's face", found, 31);
    }

    private static void testsAreTold(String readme) throws IOException {
        TreeSet<String> told = new TreeSet<>();
        Matcher names = Pattern.compile("\\b[A-Z]\\w*Test\\b").matcher(readme);
        while (names.find()) {
            told.add(names.group());
        }
        try (Stream<Path> files = Files.list(Path.of("src/test/java"))) {
            String there = files.map(file -> file.getFileName().toString()).filter(name -> name.endsWith("Test.java"))
                    .map(name -> name.replace(".java", "")).collect(Collectors.toCollection(TreeSet::new)).toString();
            due.is("the tests that are told", told.toString(), there);
        }
    }

    private static List<String> blocks(String text, String language) {
        List<String> found = new ArrayList<>();
        Matcher block = Pattern.compile("(?ms)^```" + language + "\n(.*?)^```$").matcher(text);
        while (block.find()) {
            found.add(block.group(1));
        }
        return found;
    }

    private static String run(Path place, String commands) throws IOException, InterruptedException {
        Path printed = Files.createTempFile(SCRATCH, "printed", ".txt");
        Process process = new ProcessBuilder("bash", "-e", "-c", commands).directory(place.toAbsolutePath().toFile())
                .redirectErrorStream(true).redirectOutput(printed.toFile()).start();
        if (!process.waitFor(5, TimeUnit.MINUTES)) {
            process.destroyForcibly();
            return "no end\n";
        }
        return "exit code " + process.exitValue() + "\n" + Files.readString(printed);
    }
}
