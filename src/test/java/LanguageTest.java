import java.io.IOException;
import java.nio.file.Files;
import java.nio.file.Path;
import java.util.List;
import java.util.regex.Matcher;
import java.util.regex.Pattern;

/**
 * What of ../shared/LANGUAGE.md can be seen from the lines of the program; run from the project's folder.
 * It refuses only what a rule there refuses.
 */
public final class LanguageTest {
    private static final String[][] FORBIDDEN = {
        {"1", "^\\s*package\\b"}, {"1", "\\bprotected\\b"},
        {"4", "^\\s*import\\b(?!\\s+java\\.util\\.(ArrayList|List|Iterator|Arrays|NoSuchElementException|\\*);)"},
        {"2", "::"}, {"4", "Exact\\b"}, {"4", "\\bSystem\\.(?!arraycopy\\b)"}, {"4", "\\bStrictMath\\b"},
        {"6", "\\bfinally\\b"}, {"6", "\\bsynchronized\\b"}, {"6", "\\bassert\\b"}, {"6", "\\bhashCode\\b"},
        {"13", "\\bThread\\b"}, {"13", "\\bRandom\\b"},
        {"task", "\\b(ArrayIndexOutOfBounds|NullPointer|ClassCast|NegativeArraySize|ArrayStore)Exception\\b"},
    };
    private static final String THROWN = "throw new (IllegalState|IllegalArgument|IndexOutOfBounds|Arithmetic"
            + "|UnsupportedOperation|NoSuchElement|Runtime)Exception\\((\"[^\"]*\")?\\);";

    public static void main(String[] args) throws IOException {
        List<String> lines = Files.readAllLines(Path.of("src/main/java/BlockCoaster.java"));
        for (int i = 0; i < lines.size(); i++) {
            line(i + 1, lines.get(i));
        }
        lengths(lines);
        Check.finish("LanguageTest");
    }

    private static void line(int number, String line) {
        Check.due("rule 4: the signs of line " + number + " are 1 to 127", true,
                line.chars().allMatch(c -> c >= 1 && c <= 127));
        String code = line.replaceAll("\"([^\"\\\\]|\\\\.)*\"", "\"\"").replaceAll("//.*", "").replaceAll("^\\s*/?\\*.*", "");
        for (String[] pattern : FORBIDDEN) {
            Check.due("rule " + pattern[0] + ": line " + number + " has " + pattern[1], false,
                    Pattern.compile(pattern[1]).matcher(code).find());
        }
        Check.due("rule 2: line " + number + " has a lambda", false, code.contains("->") && !code.matches("\\s*(case|default)\\b.*"));
        if (code.matches(".*\\bthrow\\b.*")) {
            Check.due("rule 6: line " + number, true, line.matches(".*" + THROWN + ".*"));
        }
        if (code.matches(" *(private )?static [^(]*=.*")) {
            Check.due("rule 5: line " + number, true, code.contains("final"));
        }
    }

    /** A method begins with a line that ends with ") {" (or its exceptions) and ends with the brace below its first letter. */
    private static void lengths(List<String> lines) {
        int begin = -1;
        String indent = "";
        for (int i = 0; i < lines.size(); i++) {
            String line = lines.get(i);
            Matcher head = Pattern.compile("^(    |        )(?!for|if|while|switch|else|\\})[A-Za-z].*\\).*\\{$").matcher(line);
            if (begin < 0 && head.find()) {
                begin = i;
                indent = head.group(1);
            } else if (begin >= 0 && line.equals(indent + "}")) {
                Check.due("rule 11: the method of line " + (begin + 1), true, i - begin <= 70);
                begin = -1;
            }
        }
    }
}
