import java.io.IOException;
import java.io.UncheckedIOException;
import java.nio.file.Files;
import java.nio.file.Path;
import java.util.LinkedHashMap;
import java.util.Map;

/** The text of the document by its sections, so that the tests can be held to its words. */
final class Document {
    private static final Path FILE = Path.of("../shared/DOC.md");

    private Document() {
    }

    /** The sections' texts by title; what has no words to test (fences, signatures) is left out. */
    static Map<String, String> sections() {
        Map<String, String> sections = new LinkedHashMap<>();
        String text = read();
        for (String section : text.split("(?m)^## ")) {
            int end = section.indexOf('\n');
            if (end >= 0) {
                sections.put(section.substring(0, end).strip(), plain(section.substring(end)));
            }
        }
        return sections;
    }

    private static String read() {
        try {
            return Files.readString(FILE);
        } catch (IOException e) {
            throw new UncheckedIOException(e);
        }
    }

    private static String plain(String section) {
        return section.replaceAll("(?m)^```.*$", "").replaceAll("\\s+", " ").strip()
                .replaceFirst("^`[^`]*`: ", "");
    }
}
