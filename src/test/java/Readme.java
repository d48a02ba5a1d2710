import java.io.IOException;
import java.nio.file.Files;
import java.nio.file.Path;
import java.util.ArrayList;
import java.util.List;

/** README.md: its text, and its pieces of Java, of commands and of print. */
final class Readme {
    final String text;
    private final List<String> languages = new ArrayList<>();
    private final List<String> pieces = new ArrayList<>();

    Readme(Path file) throws IOException {
        text = Files.readString(file);
        StringBuilder piece = null;
        for (String line : text.split("\n")) {
            boolean fence = line.startsWith("```");
            if (fence && piece == null) {
                languages.add(line.substring(3));
                piece = new StringBuilder();
            } else if (fence) {
                pieces.add(piece.toString());
                piece = null;
            } else if (piece != null) {
                piece.append(line).append('\n');
            }
        }
    }

    /** The pieces in a language, in their order. */
    List<String> pieces(String language) {
        List<String> found = new ArrayList<>();
        for (int i = 0; i < pieces.size(); i++) {
            if (languages.get(i).equals(language)) {
                found.add(pieces.get(i));
            }
        }
        return found;
    }

    /** What stands below a heading, up to the next one. */
    String section(String heading) {
        int from = text.indexOf("\n" + heading + "\n");
        int to = text.indexOf("\n#", from + 1);
        return from < 0 ? "" : text.substring(from, to < 0 ? text.length() : to);
    }
}
