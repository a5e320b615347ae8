import java.io.IOException;
import java.lang.reflect.Method;
import java.lang.reflect.Modifier;
import java.nio.file.Files;
import java.nio.file.Path;
import java.util.ArrayList;
import java.util.Comparator;
import java.util.List;
import java.util.regex.Matcher;
import java.util.regex.Pattern;
import java.util.stream.Collectors;
import java.util.stream.Stream;

/** README.md: its program prints what it says there, its commands run, and it names each call and each test. */
public final class ReadmeTest {
    private static final Path TESTS = Path.of("src/test/java");

    public static void main(String[] args) throws IOException, InterruptedException {
        String readme = Files.readString(Path.of("README.md"));
        Path folder = Files.createTempDirectory("readme");
        try {
            runExample(readme, folder);
            runCommands(readme, folder);
        } finally {
            remove(folder);
        }
        namesCalls(readme);
        namesTests(readme);
        Due.end();
    }

    private static List<String> blocks(String readme, String kind) {
        List<String> found = new ArrayList<>();
        Matcher block = Pattern.compile("(?s)```" + kind + "\n(.*?)```").matcher(readme);
        while (block.find()) {
            found.add(block.group(1));
        }
        return found;
    }

    /** The first commands of the page are the program's. */
    private static void runExample(String readme, Path folder) throws IOException, InterruptedException {
        String program = blocks(readme, "java").get(0);
        Files.writeString(folder.resolve("Example.java"), program);
        List<String> due = new ArrayList<>();
        Matcher printed = Pattern.compile("println\\(.*\\); // (-?\\d+)").matcher(program);
        while (printed.find()) {
            due.add(printed.group(1));
        }
        Due.holds("the program tells what it prints", due.size() > 10);
        String got = run(blocks(readme, "sh").get(0), folder);
        Due.holds("Example prints " + due + ", and not " + got, List.of(got.split("\n")).equals(due));
    }

    private static void runCommands(String readme, Path folder) throws IOException, InterruptedException {
        List<String> commands = blocks(readme, "sh");
        for (String some : commands.subList(1, commands.size())) {
            Due.holds("something is printed", !run(some, folder).isEmpty());
        }
    }

    /** As a reader would run them, but with all that they make in the folder. */
    private static String run(String commands, Path folder) throws IOException, InterruptedException {
        String apart = commands.replaceAll("\\bout\\b", folder.resolve("out").toString())
            .replace("Example.java", folder.resolve("Example.java").toString());
        Process shell = new ProcessBuilder("sh", "-ec", apart).redirectError(ProcessBuilder.Redirect.INHERIT).start();
        String printed = new String(shell.getInputStream().readAllBytes());
        int code = shell.waitFor();
        Due.is(commands + printed, code, 0);
        return printed;
    }

    private static void namesCalls(String readme) {
        String calls = readme.substring(readme.indexOf("### Calls"), readme.indexOf("### Refusals"));
        for (Method m : HiredToWait.class.getDeclaredMethods()) {
            if (Modifier.isPublic(m.getModifiers())) {
                Due.holds(m.getName() + " is told of", calls.contains("`" + m.getName() + "`"));
            }
        }
    }

    private static void namesTests(String readme) throws IOException {
        List<String> tests;
        try (Stream<Path> files = Files.list(TESTS)) {
            tests = files.map(file -> file.getFileName().toString().replace(".java", "")).collect(Collectors.toList());
        }
        for (String test : tests) {
            if (test.endsWith("Test")) Due.holds(test + " is told of", readme.contains("| " + test + " |"));
        }
        Matcher told = Pattern.compile("\\| (\\w+Test) \\|").matcher(readme);
        while (told.find()) {
            Due.holds(told.group(1) + " is there", tests.contains(told.group(1)));
        }
    }

    private static void remove(Path folder) throws IOException {
        List<Path> all;
        try (Stream<Path> files = Files.walk(folder)) {
            all = files.sorted(Comparator.reverseOrder()).collect(Collectors.toList());
        }
        for (Path path : all) {
            Files.delete(path);
        }
    }
}
