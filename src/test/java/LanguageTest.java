import java.io.IOException;
import java.nio.file.Files;
import java.nio.file.Path;
import java.util.List;
import java.util.regex.Matcher;
import java.util.regex.Pattern;

/** What of ../shared/LANGUAGE.md can be seen from the lines of the program; run from the project's folder. */
public final class LanguageTest {
    private static final String[] FORBIDDEN = {"\\bpackage\\b", "\\bimport\\b", "->", "::", "\\btry\\b", "\\bcatch\\b",
        "\\bfinally\\b", "\\bsynchronized\\b", "\\bassert\\b", "Exact\\b", "\\bprotected\\b", "\\bhashCode\\b",
        "\\bequals\\b", "\\btoString\\b", "\\bSystem\\.(?!arraycopy\\b)", "\\bMath\\.(?!min\\b|max\\b|abs\\b)", "java\\."};

    public static void main(String[] args) throws IOException {
        List<String> lines = Files.readAllLines(Path.of("src/main/java/BlockCoaster.java"));
        for (int i = 0; i < lines.size(); i++) {
            line(i + 1, lines.get(i));
        }
        lengths(lines);
        Check.finish("LanguageTest");
    }

    private static void line(int number, String line) {
        Check.due("line " + number + " is short and plain", true,
                line.length() <= 120 && line.chars().allMatch(c -> c >= 32 && c < 127));
        for (String pattern : FORBIDDEN) {
            Check.due("rule of the language: line " + number + " has " + pattern, false,
                    Pattern.compile(pattern).matcher(line).find());
        }
        Matcher thrown = Pattern.compile("\\bthrow ").matcher(line);
        if (thrown.find()) {
            Check.due("rule 6: line " + number, true, line.trim().matches(
                    "throw new (IllegalState|IllegalArgument|IndexOutOfBounds)Exception\\(\"[^\"]*\"\\);"));
        }
        if (line.matches(" *(private )?static [^(]*=.*")) {
            Check.due("rule 5: line " + number, true, line.contains("final"));
        }
    }

    /** A method begins with a line that ends with ") {" (or its exceptions) and ends with the brace below its first letter. */
    private static void lengths(List<String> lines) {
        int begin = -1;
        String indent = "";
        for (int i = 0; i < lines.size(); i++) {
            String line = lines.get(i);
            Matcher head = Pattern.compile("^(    |        )(?!for|if|while|switch|else|\\})[A-Za-z].*\\).*\\{$").matcher(line);
            if (begin < 0 && head.find()) {
                begin = i;
                indent = head.group(1);
            } else if (begin >= 0 && line.equals(indent + "}")) {
                Check.due("rule 11: the method of line " + (begin + 1), true, i - begin < 60);
                begin = -1;
            }
        }
    }
}
