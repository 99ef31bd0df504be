import java.io.IOException;
import java.io.UncheckedIOException;
import java.nio.file.Files;
import java.nio.file.Path;
import java.util.LinkedHashMap;
import java.util.Map;

/** The document's headings and what stands under each, in one line, without the fences of its blocks. */
final class Document {
    private static final Path PLACE = Path.of("../shared/DOC.md");

    private final Map<String, String> sections = new LinkedHashMap<>();

    Document() {
        String text;
        try {
            text = Files.readString(PLACE);
        } catch (IOException e) {
            throw new UncheckedIOException(e);
        }
        for (String section : text.split("(?m)^## ")) {
            String[] halves = section.split("\n", 2);
            String heading = halves[0].replaceFirst(":.*", "").trim();
            String body = halves.length < 2 ? "" : halves[1].replaceAll("(?m)^```.*$", " ");
            sections.put(heading, body.replaceAll("\\s+", " ").trim());
        }
    }

    /** What stands under a heading ("Terms", "Promise 6"); empty if there is no such heading. */
    String under(String heading) {
        return sections.getOrDefault(heading, "");
    }

    boolean says(String heading, String words) {
        return under(heading).contains(words);
    }
}
