import java.io.IOException;
import java.io.UncheckedIOException;
import java.nio.file.Files;
import java.nio.file.Path;
import java.util.HashMap;
import java.util.Map;

/** The sections of the document, so that a test is held to the words that it says it tests. */
final class Document {
    private static final Path FILE = Path.of("..", "shared", "DOC.md");

    private final Map<String, String> sections = new HashMap<>();

    Document() {
        if (!Files.isReadable(FILE)) {
            System.out.println(FILE + " is not here: the words that the tests name are not looked up");
            return;
        }
        try {
            for (String section : Files.readString(FILE).split("\n## ")) {
                int titleEnd = Math.max(section.indexOf('\n'), 0);
                sections.put(section.substring(0, titleEnd).trim(), oneLine(section.substring(titleEnd)));
            }
        } catch (IOException e) {
            throw new UncheckedIOException(e);
        }
    }

    boolean says(String section, String words) {
        return sections.isEmpty() || sections.getOrDefault(section, "").contains(oneLine(words));
    }

    private static String oneLine(String text) {
        return text.replaceAll("\\s+", " ").trim();
    }
}
