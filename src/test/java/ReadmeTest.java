import java.io.IOException;
import java.nio.file.Files;
import java.nio.file.Path;
import java.util.ArrayList;
import java.util.List;
import java.util.Set;
import java.util.TreeSet;
import java.util.regex.Matcher;
import java.util.regex.Pattern;
import java.util.stream.Stream;

/**
 * What README.md shows: its example is compiled and run by its own commands, and prints the answers that its comments
 * name; the tests that it names are the tests that there are.
 */
public final class ReadmeTest {
    private static final Path SOURCE = Path.of("src/main/java/SealedBallots.java");
    private static final Path TESTS = Path.of("src/test/java");
    private static final Check CHECK = new Check("ReadmeTest");

    private ReadmeTest() {
    }

    public static void main(String[] args) throws IOException, InterruptedException {
        String readme = Files.readString(Path.of("README.md"));
        List<String> commands = blocks(readme, "sh");
        CHECK.is("blocks of Java", blocks(readme, "java").size(), 1);
        CHECK.is("blocks of commands", commands.size(), 2);
        example(blocks(readme, "java").get(0), commands.get(0));
        testsByTheCommand(commands.get(1));
        testsThatAreNamed(readme);
        CHECK.end();
    }

    private static List<String> blocks(String readme, String kind) {
        List<String> blocks = new ArrayList<>();
        Matcher each = Pattern.compile("(?s)```" + kind + "\n(.*?)```").matcher(readme);
        while (each.find()) {
            blocks.add(each.group(1));
        }
        return blocks;
    }

    private static void example(String program, String commands) throws IOException, InterruptedException {
        Path folder = Folders.make("readme");
        Folders.put(folder, SOURCE.toString(), Files.readString(SOURCE));
        Folders.put(folder, "Example.java", program);
        CHECK.is("the example's exit code", Folders.run(folder, "sh", "-e", "-c", commands), 0);
        compare(program, Files.readAllLines(folder.resolve("printed")));
        Folders.remove(folder);
    }

    /** Each line that prints names in its comment, ahead of a colon, what it prints. */
    private static void compare(String program, List<String> printed) {
        List<String> lines = program.lines().filter(line -> line.contains("println(")).toList();
        CHECK.is("lines that the example prints", printed.size(), lines.size());
        CHECK.isTrue("the example shows twenty answers or more", lines.size() >= 20);
        for (int i = 0; i < lines.size() && i < printed.size(); i++) {
            Matcher comment = Pattern.compile("println\\((.*)\\); *// ([^: ]+)(: .*)?").matcher(lines.get(i));
            CHECK.isTrue("an answer is named in " + lines.get(i), comment.find());
            CHECK.isSame("the example's " + comment.group(1), printed.get(i), comment.group(2));
        }
    }

    /** What the command does is tested by CiRunTest: from here it would run itself. */
    private static void testsByTheCommand(String command) {
        CHECK.isSame("the command that runs the tests", command.strip(), ".ci/run");
        CHECK.isTrue(".ci/run can be run", Files.isExecutable(Path.of(".ci/run")));
    }

    private static void testsThatAreNamed(String readme) throws IOException {
        Set<String> named = new TreeSet<>();
        Matcher each = Pattern.compile("`([A-Z][A-Za-z]*Test)`").matcher(readme);
        while (each.find()) {
            named.add(each.group(1));
        }
        Set<String> there = new TreeSet<>();
        try (Stream<Path> files = Files.list(TESTS)) {
            files.map(file -> file.getFileName().toString()).filter(name -> name.endsWith("Test.java"))
                    .forEach(name -> there.add(name.substring(0, name.length() - 5)));
        }
        CHECK.isSame("the tests that README.md names", named, there);
    }
}
