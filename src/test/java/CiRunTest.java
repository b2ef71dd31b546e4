import java.io.IOException;
import java.nio.file.Files;
import java.nio.file.Path;
import java.util.ArrayList;
import java.util.List;

/**
 * What README.md says of .ci/run: it runs every test of the project and every test under ../shared/tests, wherever it
 * is called from, and fails if one fails. It is tried on small projects beside this one, with tests that leave a mark.
 */
public final class CiRunTest {
    private static final Path SCRIPT = Path.of(".ci/run");
    private static final String SOURCE = "main/src/main/java/SealedBallots.java";
    private static final String OWN = "main/src/test/java/";
    private static final String SHARED = "shared/tests/";
    private static final String[] MARKS = {"OneTest", "TwoTest", "OneRuns", "TwoRuns"};
    private static final Check CHECK = new Check("CiRunTest");

    private CiRunTest() {
    }

    public static void main(String[] args) throws IOException, InterruptedException {
        Path folder = Folders.make("ci");
        wholeProject(folder);
        exitsWith(folder, "all pass", true, MARKS);
        Folders.put(folder, OWN + "OneTest.java", test("OneTest", 1));
        exitsWith(folder, "the first own test fails", false, MARKS);
        Folders.put(folder, OWN + "OneTest.java", test("OneTest", 0));
        Folders.put(folder, SHARED + "OneRuns.java", test("OneRuns", 1));
        exitsWith(folder, "the first shared test fails", false, MARKS);
        Folders.put(folder, SHARED + "OneRuns.java", "public final class OneRuns { none }");
        exitsWith(folder, "a shared test does not compile", false, "OneTest", "TwoTest", "TwoRuns");
        Folders.put(folder, SHARED + "OneRuns.java", test("OneRuns", 0));
        Folders.put(folder, SOURCE, "public final class SealedBallots { none }");
        exitsWith(folder, "the class does not compile", false);
        Folders.put(folder, SOURCE, "public final class SealedBallots { }");
        Files.delete(folder.resolve(SHARED + "OneRuns.java"));
        Files.delete(folder.resolve(SHARED + "TwoRuns.java"));
        exitsWith(folder, "no shared test is there", false, "OneTest", "TwoTest");
        Folders.remove(folder);
        CHECK.end();
    }

    private static void wholeProject(Path folder) throws IOException {
        Folders.put(folder, SOURCE, "public final class SealedBallots { }");
        Folders.put(folder, OWN + "OneTest.java", test("OneTest", 0));
        Folders.put(folder, OWN + "TwoTest.java", test("TwoTest", 0));
        Folders.put(folder, OWN + "Helper.java", "final class Helper { }");
        Folders.put(folder, SHARED + "OneRuns.java", test("OneRuns", 0));
        Folders.put(folder, SHARED + "TwoRuns.java", test("TwoRuns", 0));
        Folders.put(folder, "main/.ci/run", Files.readString(SCRIPT));
    }

    /** A test that uses the class, leaves a mark where it was run, and ends with an exit code. */
    private static String test(String name, int exitCode) {
        return "public final class " + name + " { public static void main(String[] args) throws Exception { "
                + "new SealedBallots(); new java.io.File(\"" + name + ".mark\").createNewFile(); System.exit("
                + exitCode + "); } }";
    }

    /** Runs the script from another folder than its own, and looks which tests have left their marks. */
    private static void exitsWith(Path folder, String state, boolean passes, String... ran)
            throws IOException, InterruptedException {
        int exitCode = Folders.run(folder, "sh", folder.resolve("main/.ci/run").toString());
        CHECK.is(".ci/run passes, " + state, exitCode == 0 ? 1 : 0, passes ? 1 : 0);
        List<String> marks = new ArrayList<>();
        for (String name : MARKS) {
            if (Files.deleteIfExists(folder.resolve("main/" + name + ".mark"))) {
                marks.add(name);
            }
        }
        CHECK.isSame("the tests that ran, " + state, marks, List.of(ran));
    }
}
