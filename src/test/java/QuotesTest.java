import java.io.IOException;
import java.nio.file.Files;
import java.nio.file.Path;
import java.util.List;
import java.util.regex.Matcher;
import java.util.regex.Pattern;
import java.util.stream.Stream;

/** Every word of the document, from its terms to promise 42, is quoted by a test that tests it (Edge.says). */
public final class QuotesTest {
    private static final Path DOC = Path.of("../shared/DOC.md");
    private static final int PROMISES = 42;
    private static final Pattern SAYS = Pattern.compile("Edge[.]says\\((\\d+),\\s*((?:\"[^\"]*\"\\s*\\+?\\s*)+)\\);");
    private static final Pattern PIECE = Pattern.compile("\"([^\"]*)\"");
    /** Headings, heads of calls and what FaceTest looks after; none of it promises an answer. */
    private static final String[] NO_PROMISE = {"(?m)^## .*$", "(?m)^`[^`]*`: ", "(?m)^Ahead of the calls .*$",
        "(?m)^```.*$", "(?m)^[123][.] "};

    private final String doc;
    /** The document, with ~ for each sign that is quoted. */
    private final StringBuilder struck;

    private QuotesTest(String doc) {
        this.doc = doc;
        struck = new StringBuilder(doc);
    }

    public static void main(String[] args) throws IOException {
        if (Files.exists(DOC)) {
            QuotesTest test = new QuotesTest(Files.readString(DOC));
            try (Stream<Path> files = Files.list(Path.of("src/test/java"))) {
                for (Path file : files.toList()) {
                    test.strikeQuotesOf(Files.readString(file));
                }
            }
            test.everyPromise();
            test.whatIsLeft();
        }
        Check.finish();
    }

    /** Where a promise begins; 0 are the terms, and behind the last one is what is not promised. */
    private int begin(int promise) {
        if (promise == 0) {
            return doc.indexOf("## Terms");
        }
        return doc.indexOf(promise > PROMISES ? "## Not promised" : "## Promise " + promise + ":");
    }

    private void strikeQuotesOf(String source) {
        Matcher says = SAYS.matcher(source);
        while (says.find()) {
            StringBuilder quote = new StringBuilder();
            Matcher piece = PIECE.matcher(says.group(2));
            while (piece.find()) {
                quote.append(piece.group(1));
            }
            strike(Integer.parseInt(says.group(1)), quote.toString());
        }
    }

    private void strike(int promise, String quote) {
        int at = doc.indexOf(quote, begin(promise));
        while (at >= 0 && at + quote.length() <= begin(promise + 1)) {
            struck.replace(at, at + quote.length(), "~".repeat(quote.length()));
            at = doc.indexOf(quote, at + 1);
        }
    }

    private void everyPromise() {
        for (int promise = 0; promise <= PROMISES; promise++) {
            String part = struck.substring(begin(promise), begin(promise + 1));
            Check.due(promise + " is quoted", 1, part.contains("~") ? 1 : 0);
        }
    }

    private void whatIsLeft() {
        String left = struck.substring(begin(0), begin(PROMISES + 1));
        for (String none : NO_PROMISE) {
            left = left.replaceAll(none, "");
        }
        List<String> lines = left.replaceAll("~+", "~").lines().filter(line -> line.matches(".*\\w.*")).toList();
        Check.due("no test quotes: " + lines, 0, lines.size());
    }
}
