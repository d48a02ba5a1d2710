import java.io.IOException;
import java.lang.reflect.Field;
import java.lang.reflect.Method;
import java.lang.reflect.Modifier;
import java.nio.file.Files;
import java.nio.file.Path;
import java.nio.file.StandardCopyOption;
import java.util.ArrayList;
import java.util.List;
import java.util.TreeSet;
import java.util.regex.Matcher;
import java.util.regex.Pattern;
import java.util.stream.Stream;

/** What README.md says of the use of the class and of its tests is so. Run from the project's folder. */
public final class ReadmeTest {
    private static final Path CLASS = Path.of("src/main/java/RiverNames.java");
    private static final Path TESTS = Path.of("src/test/java");
    private static final Path FOLDER = Path.of("build/readme");
    private static final Pattern ANSWERED = Pattern.compile("desk\\.(\\w+)(\\(.*\\)); +// ([^:]+): .+");
    private static final Due due = new Due("ReadmeTest");

    private final Readme readme = new Readme(Path.of("README.md"));
    private final TreeSet<String> told = new TreeSet<>();

    private ReadmeTest() throws IOException {
    }

    public static void main(String[] args) throws IOException, InterruptedException {
        ReadmeTest test = new ReadmeTest();
        Files.createDirectories(FOLDER.resolve(CLASS).getParent());
        Files.copy(CLASS, FOLDER.resolve(CLASS), StandardCopyOption.REPLACE_EXISTING);
        test.programPrintsAsTold();
        test.callsAnswerAsTold();
        test.wholeFaceIsTold();
        test.classesInsideAreTold();
        test.testsAreTold();
        test.commandIsThere();
        due.end();
    }

    private static boolean isProgram(String piece) {
        return piece.startsWith("public class Example ");
    }

    /** Saves the program as README.md says, and runs the commands that it tells. */
    private void programPrintsAsTold() throws IOException, InterruptedException {
        String program = readme.pieces("java").stream().filter(ReadmeTest::isProgram).findFirst().orElse("");
        due.is("README.md has a program", program.isEmpty() ? 1 : 0, 0);
        Files.writeString(FOLDER.resolve("Example.java"), program);
        String[] commands = readme.pieces("sh").get(0).split("\n");
        Shell last = null;
        for (String command : commands) {
            last = new Shell(FOLDER, command);
            last.endedWell(due, command);
        }
        String print = readme.pieces("text").get(0);
        boolean same = last != null && last.printed.equals(print);
        due.is("the program prints" + (same ? "" : "\n" + last.printed + "instead of\n" + print), same ? 1 : 0, 1);
    }

    /** Every other piece of Java is compiled and run, and each answer told behind a call is compared. */
    private void callsAnswerAsTold() throws IOException, InterruptedException {
        StringBuilder calls = new StringBuilder("public final class ReadmeCalls {\n    private static int wrong;\n\n");
        StringBuilder main = new StringBuilder("    public static void main(String[] args) {\n");
        int number = 0;
        for (String piece : readme.pieces("java")) {
            if (!isProgram(piece)) {
                number++;
                calls.append("    private static void piece" + number + "() {\n" + compared(piece) + "    }\n\n");
                main.append("        piece" + number + "();\n");
            }
        }
        calls.append("    private static void is(String call, int got, int want) {\n        if (got != want) {\n"
            + "            wrong++;\n            System.out.println(call + \" answered \" + got + \", not \" + want);\n"
            + "        }\n    }\n\n");
        calls.append(main).append("        System.exit(wrong == 0 ? 0 : 1);\n    }\n}\n");
        Files.writeString(FOLDER.resolve("ReadmeCalls.java"), calls);
        new Shell(FOLDER, "javac -Xlint:all -Werror -d calls " + CLASS + " ReadmeCalls.java")
            .endedWell(due, "compiling the calls of README.md");
        new Shell(FOLDER, "java -cp calls ReadmeCalls").endedWell(due, "the calls of README.md");
    }

    /** The piece with its calls compared with the answers told; no word behind // goes without. */
    private String compared(String piece) {
        StringBuilder lines = new StringBuilder();
        for (String line : piece.split("\n")) {
            Matcher call = ANSWERED.matcher(line);
            if (call.matches()) {
                String want = call.group(3).matches("[A-Z_]+") ? "RiverNames." + call.group(3) : call.group(3);
                String name = call.group(1) + call.group(2);
                lines.append("        is(\"" + name.replace("\"", "\\\"") + "\", desk." + name + ", " + want + ");\n");
                told.add(call.group(1));
                told.add(call.group(3));
            } else {
                due.is("README.md tells an answer in " + line,
                    line.contains("//") || line.startsWith("desk.") ? 0 : 1, 1);
                lines.append("        ").append(line).append('\n');
            }
        }
        return lines.toString();
    }

    private void wholeFaceIsTold() {
        for (Method method : RiverNames.class.getDeclaredMethods()) {
            if (Modifier.isPublic(method.getModifiers())) {
                due.is("README.md has a call of " + method.getName(), told.contains(method.getName()) ? 1 : 0, 1);
            }
        }
        for (Field field : RiverNames.class.getDeclaredFields()) {
            if (Modifier.isPublic(field.getModifiers())) {
                due.is("README.md has an answer " + field.getName(), told.contains(field.getName()) ? 1 : 0, 1);
                due.is("README.md says what " + field.getName() + " means",
                    readme.text.contains("\n- `RiverNames." + field.getName() + "`: ") ? 1 : 0, 1);
            }
        }
    }

    private static void same(String what, TreeSet<String> got, TreeSet<String> want) {
        due.is(what + " are " + got + ", not " + want, got.equals(want) ? 1 : 0, 1);
    }

    private static TreeSet<String> named(String text, String pattern) {
        TreeSet<String> names = new TreeSet<>();
        Matcher matcher = Pattern.compile("`(" + pattern + ")`").matcher(text);
        while (matcher.find()) {
            names.add(matcher.group(1));
        }
        return names;
    }

    private void classesInsideAreTold() {
        TreeSet<String> classes = new TreeSet<>(List.of("RiverNames"));
        for (Class<?> inside : RiverNames.class.getDeclaredClasses()) {
            classes.add(inside.getSimpleName());
        }
        same("the classes in README.md", named(readme.section("## How it is built"), "\\w+"), classes);
    }

    private void testsAreTold() throws IOException {
        List<Path> files = new ArrayList<>();
        try (Stream<Path> all = Files.list(TESTS)) {
            all.forEach(files::add);
        }
        TreeSet<String> tests = new TreeSet<>();
        for (Path file : files) {
            String name = file.getFileName().toString();
            if (name.endsWith("Test.java")) {
                tests.add(name.substring(0, name.length() - ".java".length()));
            }
        }
        same("the tests in README.md", named(readme.section("## How to run its tests"), "\\w+Test"), tests);
    }

    /** CommandTest tells whether the command runs the tests. */
    private void commandIsThere() {
        String section = readme.section("## How to run its tests");
        due.is("README.md tells the command .ci/run", section.contains("\n```sh\n.ci/run\n```\n") ? 1 : 0, 1);
        due.is(".ci/run is there", Files.isRegularFile(Path.of(".ci/run")) ? 1 : 0, 1);
    }
}
