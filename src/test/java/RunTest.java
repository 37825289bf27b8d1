import java.io.IOException;
import java.nio.file.Files;
import java.nio.file.Path;
import java.util.List;

/** The command that README.md names for the tests is the one that runs them, and it fails if one of them fails. */
public final class RunTest {
    private static final Due DUE = new Due("RunTest");
    private static final String PROGRAM = "main/src/main/java/PierTooFar.java";
    private static final String OWN = "main/src/test/java/TinyTest.java";
    private static final String SHARED = "shared/tests/Small.java";
    private static final String SHARED_TOO = "shared/tests/Wide.java";

    public static void main(String[] args) throws IOException, InterruptedException {
        Path root = Path.of(System.getProperty("project.root", "."));
        DUE.holds("README.md, the command that it names for the tests");
        List<String> blocks = Readme.of(root).blocks("sh");
        DUE.is("commands in " + blocks, blocks.size(), 1);
        String command = blocks.isEmpty() ? "" : blocks.get(0);
        DUE.yes("one line: " + command, !command.isEmpty() && !command.contains("\n"));
        String script = command.substring(command.lastIndexOf(' ') + 1);
        isTheOneThatRuns(root.resolve(script));
        tried(root, script, command);
        DUE.close();
    }

    private static void isTheOneThatRuns(Path script) throws IOException {
        DUE.yes("it can be run: " + script, Files.isRegularFile(script) && Files.isExecutable(script));
        String running = System.getProperty("project.run");
        if (running == null) {
            System.out.println("RunTest was begun by hand: what runs it is not looked at");
            return;
        }
        DUE.yes("it runs this test: " + running, Files.isSameFile(script, Path.of(running)));
    }

    /** All of them are begun before the first one is waited for, since each takes its time. */
    private static void tried(Path root, String script, String command) throws IOException, InterruptedException {
        Scratch fine = project(root, script, 0, 0).begin(command);
        Scratch more = project(root, script, 0, 0).with(SHARED_TOO, test("Wide", 0)).begin(command);
        Scratch ownFails = project(root, script, 1, 0).begin(command);
        Scratch sharedFails = project(root, script, 0, 1).begin(command);
        Scratch laterFails = project(root, script, 0, 0).with(SHARED_TOO, test("Wide", 1)).begin(command);
        Scratch sharedIsNoJava = project(root, script, 0, 0).with(SHARED, "no Java").begin(command);
        Scratch ownIsNoJava = project(root, script, 0, 0).with(OWN, "no Java").begin(command);
        Scratch programIsNoJava = project(root, script, 0, 0).with(PROGRAM, "no Java").begin(command);
        Scratch nothingShared = new Scratch(root, script).with(PROGRAM, program()).with(OWN, test("TinyTest", 0)).begin(command);
        says("all pass", fine, true, "passed: TinyTest", "passed: shared/tests/Small", "2 passed, 0 failed");
        says("another shared test", more, true, "passed: shared/tests/Small", "passed: shared/tests/Wide", "3 passed, 0 failed");
        says("a test of the project fails", ownFails, false, "FAILED: TinyTest", "1 passed, 1 failed");
        says("a shared test fails", sharedFails, false, "FAILED: shared/tests/Small", "1 passed, 1 failed");
        says("the last shared test fails", laterFails, false, "FAILED: shared/tests/Wide", "2 passed, 1 failed");
        says("a shared test is no Java", sharedIsNoJava, false, "FAILED: shared/tests/Small", "1 passed, 1 failed");
        says("a test of the project is no Java", ownIsNoJava, false, "the program or its tests do not compile");
        says("the program is no Java", programIsNoJava, false, "the program or its tests do not compile");
        says("nothing is shared", nothingShared, false, "no tests under ../shared/tests", "1 passed, 1 failed");
    }

    private static Scratch project(Path root, String script, int own, int shared) throws IOException {
        return new Scratch(root, script).with(PROGRAM, program()).with(OWN, test("TinyTest", own)).with(SHARED, test("Small", shared));
    }

    private static String program() {
        return "public final class PierTooFar { public int look(int what) { return 0; } }";
    }

    /** A test that looks at the program and ends with that exit code. */
    private static String test(String name, int exitCode) {
        return "public final class " + name + " { public static void main(String[] args) {"
                + " System.exit(new PierTooFar().look(0) + " + exitCode + "); } }";
    }

    /** Its exit code is 0 if all pass, each row stands there, and the last row is the last one. */
    private static void says(String what, Scratch scratch, boolean passes, String... rows) throws IOException, InterruptedException {
        int exitCode = scratch.exitCode();
        List<String> said = scratch.said();
        DUE.is(what + ": passes", exitCode == 0 ? 1 : 0, passes ? 1 : 0);
        for (String row : rows) {
            DUE.yes(what + ": \"" + row + "\" in " + said, said.contains(row));
        }
        String last = said.isEmpty() ? "" : said.get(said.size() - 1);
        DUE.yes(what + ": closes with \"" + last + "\"", last.equals(rows[rows.length - 1]));
        scratch.remove();
    }
}
