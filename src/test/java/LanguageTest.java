import java.io.IOException;
import java.nio.file.Files;
import java.nio.file.Path;
import java.util.List;
import java.util.regex.Matcher;
import java.util.regex.Pattern;

/** What of LANGUAGE.md can be seen in the text of the class: words that it leaves out, and lengths. */
public final class LanguageTest {
    private static final Path SOURCE = Path.of("src/main/java/ColumnDesk.java");
    private static final int METHOD_MOST = 60;
    private static final String[] LEFT_OUT = {
        "->", "::", "Exact\\b", "\\bsynchronized\\b", "\\bassert\\b", "\\bfinally\\b", "\\bcatch\\b", "\\bpackage\\b",
        "\\bprotected\\b", "\\bThread\\b", "\\bRandom\\b", "\\bSystem\\.(?!arraycopy)", "\\bInteger\\.M", "\\bLong\\.M",
        "\\bObject\\b", "\\bMap\\b", "\\bhashCode\\b", "\\btoString\\b", "while \\(true\\)", "for \\(;;\\)",
    };

    public static void main(String[] args) throws IOException {
        Check check = new Check("LanguageTest");
        List<String> lines = Files.readAllLines(SOURCE);
        for (String word : LEFT_OUT) {
            check.due("lines with " + word, linesWith(lines, word), 0);
        }
        check.due("imports", linesWith(lines, "^import "), linesWith(lines, "^import java\\.util\\.Arrays;"));
        check.yes("methods are short", longestMethod(lines) <= METHOD_MOST);
        check.due("methods of eight parameters", linesWith(lines, "\\((\\w+ \\w+, ){7,}\\w+ \\w+\\)"), 0);
        check.end();
    }

    private static int linesWith(List<String> lines, String word) {
        Pattern pattern = Pattern.compile(word);
        int many = 0;
        for (String line : lines) {
            Matcher found = pattern.matcher(line.replaceAll("//.*|^\\s*/?\\*.*", ""));
            many += found.find() ? 1 : 0;
        }
        return many;
    }

    /** Methods stand four or eight spaces in, and end with a brace there. */
    private static int longestMethod(List<String> lines) {
        int longest = 0;
        int begun = 0;
        for (int i = 0; i < lines.size(); i++) {
            if (lines.get(i).matches("( {4}| {8})\\w.*\\) .*\\{") && !lines.get(i).matches(" {8}(if|for|switch|while) .*")) {
                begun = i;
            } else if (lines.get(i).matches("( {4}| {8})}")) {
                longest = Math.max(longest, i - begun);
            }
        }
        return longest;
    }
}
