import java.io.IOException;
import java.nio.file.Files;
import java.nio.file.Path;
import java.util.List;
import java.util.regex.Matcher;
import java.util.regex.Pattern;

/** What of LANGUAGE.md can be seen from the signs of the source alone. */
public final class LanguageTest {
    private static final List<String> RULED_OUT = List.of("package", "import", "throw", "throws",
            "try", "catch", "finally", "synchronized", "assert", "volatile", "transient", "native",
            "protected", "var", "yield", "equals", "hashCode", "toString", "Exception", "Error",
            "Thread", "System\\.out", "System\\.in", "System\\.nano\\w*", "System\\.current\\w*",
            "Random", "Object", "\\w+Exact", "->", "::", "static\\s*\\{");

    // A text, a sign, or a comment: none of these is code.
    private static final Pattern NO_CODE = Pattern.compile(
            "\"(?:\\\\.|[^\"\\\\])*\"|'(?:\\\\.|[^'\\\\])'|//[^\n]*|/\\*.*?\\*/", Pattern.DOTALL);

    private static void words(String code) {
        for (String word : RULED_OUT) {
            String bound = Character.isLetter(word.charAt(0)) ? "\\b" : "";
            Matcher m = Pattern.compile(bound + word + bound).matcher(code);
            if (m.find()) {
                Check.holds("no " + word, false);
            } else {
                Check.holds("no " + word, true);
            }
        }
        Check.holds("signs of ASCII alone", code.chars().allMatch(c -> c < 128));
    }

    private static void objects(String code) {
        for (String line : code.split("\n")) {
            boolean makes = Pattern.compile("\\bnew\\b").matcher(line).find();
            boolean field = line.matches("    (    )?(private )?(final )?[\\w\\[\\]]+ \\w+ = new .*;");
            Check.holds("objects are made with the object alone: " + line, !makes || field);
        }
    }

    private static void lengths(String code) {
        String[] lines = code.split("\n");
        int began = -1;
        for (int i = 0; i < lines.length; i++) {
            if (lines[i].matches("\\s+[^=;]*\\) \\{") && lines[i].matches("( {4}| {8})\\S.*")
                    && !lines[i].matches("\\s+(if|for|while|switch|\\}).*")) {
                began = i;
            }
            if (began >= 0 && lines[i].matches("( {4}| {8})\\}")) {
                Check.holds("sixty lines at most: " + lines[began], i - began < 60);
                began = -1;
            }
            Check.holds("a hundred signs at most: " + lines[i], lines[i].length() <= 100);
        }
    }

    public static void main(String[] args) throws IOException {
        String source = Files.readString(Path.of("src/main/java/TowerPrisoner.java"));
        String code = NO_CODE.matcher(source).replaceAll("0");
        words(code);
        objects(code);
        lengths(code);
        Check.end();
    }
}
