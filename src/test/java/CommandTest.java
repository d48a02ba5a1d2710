import java.io.IOException;
import java.nio.file.Files;
import java.nio.file.Path;
import java.nio.file.StandardCopyOption;

/** The command .ci/run, put to small projects: it runs every test, and fails if one fails. */
public final class CommandTest {
    private static final Path FOLDER = Path.of("build/command");
    private static final String GOOD_CLASS = "public final class RiverNames { }\n";
    private static final Due due = new Due("CommandTest");

    private int projects;
    private Path project;

    public static void main(String[] args) throws IOException, InterruptedException {
        CommandTest test = new CommandTest();
        test.runsEveryTest();
        test.failsWithATestOfTheProject();
        test.failsWithASharedTest();
        test.failsWithAThrowingTest();
        test.failsIfTheProjectDoesNotCompile();
        test.failsIfASharedTestDoesNotCompile();
        test.failsWithoutTheSharedTests();
        due.end();
    }

    /** A new project with the command, two good tests, and two good tests beside it. */
    private void begin() throws IOException {
        projects++;
        project = FOLDER.resolve("desk" + projects).resolve("main");
        write(".ci/run", "");
        Files.copy(Path.of(".ci/run"), project.resolve(".ci/run"),
            StandardCopyOption.REPLACE_EXISTING, StandardCopyOption.COPY_ATTRIBUTES);
        write("src/main/java/RiverNames.java", GOOD_CLASS);
        write("src/test/java/FirstTest.java", program("FirstTest", "System.exit(0);"));
        write("src/test/java/SecondTest.java", program("SecondTest", ""));
        write("../shared/tests/FirstRuns.java", program("FirstRuns", "System.exit(0);"));
        write("../shared/tests/SecondRuns.java", program("SecondRuns", ""));
    }

    private void write(String file, String text) throws IOException {
        Path path = project.resolve(file).normalize();
        Files.createDirectories(path.getParent());
        Files.writeString(path, text);
    }

    private static String program(String name, String end) {
        return "public final class " + name + " {\n    public static void main(String[] args) {\n"
            + "        System.out.println(\"" + name + " with \" + new RiverNames().getClass().getName());\n        "
            + end + "\n    }\n}\n";
    }

    private Shell run() throws IOException, InterruptedException {
        return new Shell(project, "sh .ci/run 2>&1");
    }

    private void fails(String why) throws IOException, InterruptedException {
        due.is(".ci/run with " + why + " passed", run().code == 0 ? 1 : 0, 0);
    }

    private void runsEveryTest() throws IOException, InterruptedException {
        begin();
        Shell done = run();
        done.endedWell(due, ".ci/run");
        for (String name : new String[] {"FirstTest", "SecondTest", "FirstRuns", "SecondRuns"}) {
            due.is(".ci/run runs " + name, done.printed.contains(name + " with RiverNames\n") ? 1 : 0, 1);
        }
    }

    private void failsWithATestOfTheProject() throws IOException, InterruptedException {
        begin();
        write("src/test/java/FirstTest.java", program("FirstTest", "System.exit(1);"));
        fails("a failing test of the project");
    }

    private void failsWithASharedTest() throws IOException, InterruptedException {
        begin();
        write("../shared/tests/FirstRuns.java", program("FirstRuns", "System.exit(1);"));
        fails("a failing shared test");
    }

    private void failsWithAThrowingTest() throws IOException, InterruptedException {
        begin();
        write("src/test/java/FirstTest.java", program("FirstTest", "throw new IllegalStateException();"));
        fails("a test that throws");
    }

    private void failsIfTheProjectDoesNotCompile() throws IOException, InterruptedException {
        begin();
        write("src/test/java/SecondTest.java", "public final class SecondTest { int x = ; }\n");
        fails("a test of the project that does not compile");
    }

    private void failsIfASharedTestDoesNotCompile() throws IOException, InterruptedException {
        begin();
        write("../shared/tests/FirstRuns.java", "public final class FirstRuns { int x = ; }\n");
        fails("a shared test that does not compile");
    }

    private void failsWithoutTheSharedTests() throws IOException, InterruptedException {
        begin();
        Files.delete(project.resolve("../shared/tests/FirstRuns.java").normalize());
        Files.delete(project.resolve("../shared/tests/SecondRuns.java").normalize());
        Files.delete(project.resolve("../shared/tests").normalize());
        fails("no folder of shared tests");
    }
}
