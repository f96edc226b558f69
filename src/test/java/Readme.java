import java.io.IOException;
import java.nio.file.Files;
import java.nio.file.Path;
import java.util.List;
import java.util.regex.Matcher;
import java.util.regex.Pattern;

/** README.md, as it stands: its sections and the fenced blocks in them. */
final class Readme {
    static final String USE = "How to use it";
    static final String TESTS = "How to run its tests";

    private Readme() {
    }

    /** The section from its heading to the next one; empty if there is none. */
    static String section(String heading) throws IOException {
        String page = Files.readString(Path.of("README.md"));
        Matcher section = Pattern.compile("(?ms)^## " + Pattern.quote(heading) + "\n(.*?)(?=^## |\\z)").matcher(page);
        return section.find() ? section.group(1) : "";
    }

    /** The blocks of a section that are written in the language, in their order. */
    static List<String> blocks(String heading, String language) throws IOException {
        return Pattern.compile("(?ms)^```" + language + "\n(.*?)^```$").matcher(section(heading)).results()
                .map(block -> block.group(1)).toList();
    }
}
