import java.io.IOException;
import java.nio.charset.StandardCharsets;
import java.nio.file.Path;

/** A command that was run in a folder: what it printed (its errors go to the errors of the test), and its end. */
final class Shell {
    final String printed;
    final int code;

    Shell(Path folder, String command) throws IOException, InterruptedException {
        Process process = new ProcessBuilder("sh", "-c", command)
            .directory(folder.toFile()).redirectError(ProcessBuilder.Redirect.INHERIT).start();
        printed = new String(process.getInputStream().readAllBytes(), StandardCharsets.UTF_8);
        code = process.waitFor();
    }

    /** Tells what was printed, too, where the command did not end as due. */
    void endedWell(Due due, String what) {
        due.is(what + (code == 0 ? "" : ", which printed " + printed) + " ended with", code, 0);
    }
}
