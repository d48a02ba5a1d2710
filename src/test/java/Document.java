import java.io.IOException;
import java.nio.file.Files;
import java.nio.file.Path;
import java.util.BitSet;
import java.util.LinkedHashMap;
import java.util.Map;

/** The document, section by section, and which of its words a test has quoted. Read from the project's folder. */
final class Document {
    private static final Path FILE = Path.of("../shared/DOC.md");
    private final Map<String, String> sections = new LinkedHashMap<>();
    private final Map<String, BitSet> quoted = new LinkedHashMap<>();

    Document() throws IOException {
        String section = "";
        for (String line : Files.readAllLines(FILE)) {
            if (line.startsWith("#")) {
                section = line.replaceFirst("^#+ ", "").replaceFirst("^(Promise [0-9]+):.*", "$1");
                sections.put(section, "");
                quoted.put(section, new BitSet());
            } else if (!line.startsWith("```") && !line.startsWith("Ahead of the calls ")) {
                sections.merge(section, " " + plain(section, line), String::concat);
            }
        }
        sections.replaceAll((title, text) -> text.replaceAll("\\s+", " "));
    }

    /** Without the signs of the layout, and without a method's head. */
    private static String plain(String section, String line) {
        String words = section.startsWith("Promise") ? line.replaceFirst("^`[^`]*`: ", "") : line;
        return words.replace("`", "");
    }

    void quote(Due due, String section, String words) {
        int at = sections.getOrDefault(section, "").indexOf(words);
        due.is("the section " + section + " says \"" + words + "\"", at >= 0 ? 1 : 0, 1);
        if (at >= 0) {
            quoted.get(section).set(at, at + words.length());
        }
    }

    /** Every word of the terms and of the promises has been quoted. */
    void isQuoted(Due due) {
        for (String section : sections.keySet()) {
            if (section.matches("Promise.*|Map|Names|Which labels may stand|Text|Undo|Errors")) {
                String left = unquoted(section);
                due.is("the section " + section + " has words without a test: " + left, left.length(), 0);
            }
        }
    }

    private String unquoted(String section) {
        String text = sections.get(section);
        StringBuilder left = new StringBuilder();
        for (int i = 0; i < text.length(); i++) {
            boolean open = !quoted.get(section).get(i);
            left.append(open && Character.isLetterOrDigit(text.charAt(i)) ? text.charAt(i) : ' ');
        }
        return left.toString().replaceAll("\\s+", " ").trim();
    }
}
