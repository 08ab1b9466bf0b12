import java.io.IOException;
import java.nio.file.Files;
import java.nio.file.Path;
import java.util.List;
import java.util.Set;
import java.util.TreeSet;
import java.util.function.Supplier;
import java.util.function.ToIntFunction;
import java.util.regex.Matcher;
import java.util.regex.Pattern;

/**
 * Tests of the document's boundaries, told by the words that set them: says() names the promise (0: the terms)
 * and quotes it, what follows tests those words.
 */
final class Edge {
    private static final Path DOC = Path.of("../shared/DOC.md");
    private static final String[] FINDINGS = {"BEYOND", "FULL", "KIND", "NONE", "STATE", "MISSING", "SIZE"};

    private static final String TEXT = readDoc();
    private static final Set<String> REFUSED = new TreeSet<>();
    private static int promise = 0;
    private static String words = "";

    private Edge() {
    }

    /** Without the document the answers are tested yet, only the quotes are not. */
    private static String readDoc() {
        try {
            return Files.exists(DOC) ? Files.readString(DOC) : "";
        } catch (IOException e) {
            throw new IllegalStateException(e);
        }
    }

    private static String part(int number) {
        int begin = number == 0 ? 0 : TEXT.indexOf("## Promise " + number + ":");
        int end = TEXT.indexOf(number == 0 ? "## Promise 1:" : "\n## ", begin + 1);
        return begin < 0 || end < 0 ? "" : TEXT.substring(begin, end);
    }

    static void says(int number, String quote) {
        promise = number;
        words = quote;
        if (!TEXT.isEmpty()) {
            Check.due(number + ": the document says '" + quote + "'", 1, part(number).contains(quote) ? 1 : 0);
        }
    }

    private static String label(String what) {
        return promise + " '" + words + "': " + what;
    }

    static void due(String what, int want, int got) {
        Check.due(label(what), want, got);
    }

    /** The call answers a finding, status() counts it, and nothing else is other than in a door that was not asked. */
    static void refused(String what, int finding, Supplier<SumDoor> make, ToIntFunction<SumDoor> call) {
        SumDoor asked = make.get();
        SumDoor other = make.get();
        due(what, finding, call.applyAsInt(asked));
        int place = Check.BEYOND - finding;
        for (int which = -1; which < FINDINGS.length; which++) {
            int more = which == -1 || which == place ? 1 : 0;
            due(what + ", status " + which, other.status(which) + more, asked.status(which));
        }
        alike(what + " changes nothing", asked, other);
        REFUSED.add(promise + " " + FINDINGS[place]);
    }

    /** The call answers what is due, no finding, and nothing is other than in a door that was not asked. */
    static void told(String what, int want, Supplier<SumDoor> make, ToIntFunction<SumDoor> call) {
        SumDoor asked = make.get();
        SumDoor other = make.get();
        due(what, want, call.applyAsInt(asked));
        due(what + ", status", other.status(-1), asked.status(-1));
        alike(what + " changes nothing", asked, other);
    }

    static void alike(String what, SumDoor one, SumDoor other) {
        List<Integer> a = Everything.of(one);
        List<Integer> b = Everything.of(other);
        due(what + ", in how much there is to ask", b.size(), a.size());
        for (int i = 0; i < Math.min(a.size(), b.size()); i++) {
            due(what + ", answer " + i, b.get(i), a.get(i));
        }
    }

    /** Every finding that a promise names, from one promise to another, must have been told by a refused call. */
    static void finish(int first, int last) {
        Pattern finding = Pattern.compile("[.] (" + String.join("|", FINDINGS) + ")\\b");
        for (int number = first; number <= last; number++) {
            Matcher named = finding.matcher(part(number));
            while (named.find()) {
                String pair = number + " " + named.group(1);
                Check.due(pair + " has a test", 1, REFUSED.contains(pair) ? 1 : 0);
            }
        }
        Check.finish();
    }
}
