import java.io.IOException;
import java.nio.file.Files;
import java.nio.file.Path;
import java.util.List;
import java.util.regex.Matcher;
import java.util.regex.Pattern;

/** The rules of LANGUAGE.md that a search through the source can see. Run from the project's folder. */
public final class LanguageTest {
    private static final Due due = new Due("LanguageTest");

    public static void main(String[] args) throws IOException {
        String source = Files.readString(Path.of("src/main/java/RiverNames.java"));
        String code = source.replaceAll("(?s)/\\*.*?\\*/", "").replaceAll("//[^\n]*", "");
        String bare = code.replaceAll("\"[^\"\n]*\"", "\"\"");
        onlyPlainSigns(source);
        noForbiddenWords(bare);
        onlyListedLibrary(bare);
        staticFieldsAreConstants(bare);
        objectsAreMadeInAdvance(bare);
        sizes(code);
        due.end();
    }

    private static void onlyPlainSigns(String source) {
        due.is("signs beyond 126", source.chars().filter(sign -> sign > 126 || sign < 32 && sign != '\n').count(), 0);
    }

    private static void absent(String code, String pattern) {
        Matcher matcher = Pattern.compile(pattern).matcher(code);
        due.is("found " + pattern + (matcher.find() ? ": " + matcher.group() : ""), matcher.reset().find() ? 1 : 0, 0);
    }

    private static void noForbiddenWords(String code) {
        for (String word : List.of("throw", "throws", "try", "catch", "finally", "synchronized", "assert", "package",
                "protected", "volatile", "transient", "native", "strictfp", "var", "yield", "hashCode",
                "toString", "Object", "Exception", "Random", "Thread")) {
            absent(code, "\\b" + word + "\\b");
        }
        absent(code, "->");
        absent(code, "::");
        absent(code, "@");
        absent(code, "\"\\s*\\+|\\+\\s*\"");
        absent(code, "\\w+Exact\\b");
        absent(code, "while \\(true\\)|for \\(;;\\)");
    }

    private static void onlyListedLibrary(String code) {
        Matcher imports = Pattern.compile("import ([^;]+);").matcher(code);
        while (imports.find()) {
            due.is("import " + imports.group(1), imports.group(1).equals("java.util.Arrays") ? 1 : 0, 1);
        }
        Matcher calls = Pattern.compile("\\b(Math|System|Arrays|Integer|Long|String)\\.(\\w+)").matcher(code);
        while (calls.find()) {
            due.is("library call " + calls.group(),
                calls.group().matches("Math\\.(abs|min|max)|System\\.arraycopy|Arrays\\.fill") ? 1 : 0, 1);
        }
    }

    private static void staticFieldsAreConstants(String code) {
        Matcher fields = Pattern.compile("(?m)^.*\\bstatic\\b[^(\n]*=.*$").matcher(code);
        while (fields.find()) {
            due.is("static field" + fields.group(),
                fields.group().matches(".*static final (int|long|boolean|char|String|int\\[\\]) [A-Z_]+ = .*") ? 1 : 0, 1);
        }
    }

    /** All calls share one room: whatever is made is made with the desk. */
    private static void objectsAreMadeInAdvance(String code) {
        Matcher lines = Pattern.compile("(?m)^.*\\bnew\\b.*$").matcher(code);
        while (lines.find()) {
            due.is("object made in" + lines.group(),
                lines.group().matches("\\s+(private )?(final )?\\w+(\\[\\])? \\w+ = new .*"
                    + "|\\s+(rivers|towns|labels|kept)\\[i\\] = new .*") ? 1 : 0, 1);
        }
    }

    private static void sizes(String code) {
        String[] lines = code.split("\n");
        int head = -1;
        for (int i = 0; i < lines.length; i++) {
            if (lines[i].matches("( {4}| {8})(public |private |static )*\\w+(\\[\\])? ?\\w*\\(.*\\{")) {
                head = i;
                due.is("parameters in" + lines[i], lines[i].split(",").length <= 7 ? 1 : 0, 1);
            }
            if (lines[i].matches("( {4}| {8})\\}") && head >= 0) {
                due.is("lines of" + lines[head], i - head <= 60 ? 1 : 0, 1);
                head = -1;
            }
        }
    }
}
