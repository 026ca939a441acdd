import java.io.IOException;
import java.nio.file.Files;
import java.nio.file.Path;
import java.util.LinkedHashMap;
import java.util.Map;

/** The document, cut at its headings. */
final class Document {
    private static final Path PLACE = Path.of("../shared/DOC.md");

    private Document() {
    }

    /** The text under each heading, by the heading's own words. */
    static Map<String, String> sections() {
        Map<String, String> sections = new LinkedHashMap<>();
        String heading = "";
        for (String line : lines()) {
            if (line.matches("(#+|==) .*")) {
                heading = line.substring(line.indexOf(' ') + 1).strip();
                sections.put(heading, "");
            } else {
                sections.merge(heading, line + "\n", String::concat);
            }
        }
        sections.values().removeIf(String::isBlank);
        return sections;
    }

    private static Iterable<String> lines() {
        try {
            return Files.readAllLines(PLACE);
        } catch (IOException e) {
            throw new AssertionError("the document is not at " + PLACE, e);
        }
    }
}
