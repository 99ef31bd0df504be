import java.io.IOException;
import java.nio.file.Files;
import java.nio.file.Path;
import java.util.List;
import java.util.regex.Matcher;
import java.util.regex.Pattern;
import java.util.stream.Stream;

/** No words of the promises, or of the terms on which they lean, are left that no test holds to. */
public final class SentencesTest {
    private static final Path TESTS = Path.of("src/test/java");
    private static final int PROMISES = 17;
    private static final Pattern QUOTE = Pattern.compile("due\\.says\\(\"([^\"]*)\",\\s*\"([^\"]*)\"\\)");
    // numbers of the parts, and the form of a call ahead of what is promised of it
    private static final Pattern NO_SENTENCE = Pattern.compile("==== \\d\\.|^`[^`]*`:");

    public static void main(String[] args) throws IOException {
        Due due = new Due();
        Document document = new Document();
        String tests = textOfTests();
        nothingIsLeft(due, document, tests, "Terms");
        for (int p = 1; p <= PROMISES; p++) {
            nothingIsLeft(due, document, tests, "Promise " + p);
        }
        due.yes("there is no promise more", document.under("Promise " + (PROMISES + 1)).isEmpty());
        due.end();
    }

    private static void nothingIsLeft(Due due, Document document, String tests, String heading) {
        due.no(heading + " is missing in the document", document.under(heading).isEmpty());
        String left = untested(document, tests, heading);
        due.is("words of " + heading + " without a test (" + left + ")", left.length(), 0);
    }

    private static String textOfTests() throws IOException {
        StringBuilder all = new StringBuilder();
        try (Stream<Path> files = Files.list(TESTS)) {
            List<Path> sorted = files.filter(f -> f.toString().endsWith("Test.java")).sorted().toList();
            for (Path file : sorted) {
                all.append(Files.readString(file));
            }
        }
        // a sentence that is written over two lines is one
        return all.toString().replaceAll("\"\\s*\\+\\s*\"", "");
    }

    private static String untested(Document document, String tests, String heading) {
        String body = document.under(heading);
        boolean[] tested = new boolean[body.length()];
        Matcher none = NO_SENTENCE.matcher(body);
        while (none.find()) {
            mark(tested, none.start(), none.end());
        }
        Matcher quote = QUOTE.matcher(tests);
        while (quote.find()) {
            int at = body.indexOf(quote.group(2));
            while (quote.group(1).equals(heading) && at >= 0) {
                mark(tested, at, at + quote.group(2).length());
                at = body.indexOf(quote.group(2), at + 1);
            }
        }
        StringBuilder left = new StringBuilder();
        for (int i = 0; i < tested.length; i++) {
            if (!tested[i]) {
                left.append(body.charAt(i));
            }
        }
        return left.toString().replaceAll("[\\s,;.]+", " ").trim();
    }

    private static void mark(boolean[] row, int from, int to) {
        for (int i = from; i < to; i++) {
            row[i] = true;
        }
    }
}
