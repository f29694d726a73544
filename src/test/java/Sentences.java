import java.io.IOException;
import java.io.UncheckedIOException;
import java.nio.file.Files;
import java.nio.file.Path;
import java.util.Arrays;

/**
 * The document's sentences, one behind the other, each with answers of its own. A sentence that the document does not
 * have, one about which nothing is asked, and one of the document that no test tells are faults of the tests.
 */
final class Sentences {
    private static final int PROMISES = 46;
    private final Due due = new Due();
    private final String document = read();
    private final boolean[] isSaid = new boolean[document.length()];
    private String sentence = "";
    private int asked = 1;

    private static String read() {
        try {
            return Files.readString(Path.of("../shared/DOC.md")).replaceAll("```(text)?", "").replaceAll("\\s+", " ");
        } catch (IOException e) {
            throw new UncheckedIOException(e);
        }
    }

    /** What is asked from here on belongs to this sentence (or part of one) of the document. */
    void says(String words) {
        leave();
        sentence = words;
        int from = document.indexOf(words);
        due.is("the document says '" + words + "' (0 not)", from < 0 ? 0 : 1, 1);
        while (from >= 0) {
            Arrays.fill(isSaid, from, from + words.length(), true);
            from = document.indexOf(words, from + 1);
        }
    }

    /** The same for all that a promise says behind its call. */
    void promise(int n, String words) {
        leave();
        sentence = "promise " + n + ", " + words;
        int from = placeOf(n);
        int to = placeOf(n + 1);
        due.is("promise " + n + " says '" + words + "' (0 not)",
            document.substring(from, to).trim().endsWith("`: " + words) ? 1 : 0, 1);
        Arrays.fill(isSaid, from, to, true);
    }

    private int placeOf(int promise) {
        return document.indexOf(promise > PROMISES ? "## Not promised" : "## Promise " + promise + ":");
    }

    void is(String call, long got, long want) {
        asked++;
        due.is("'" + sentence + "': " + call, got, want);
    }

    void thrown(String call, BladeBetweenThumbs x, int d, int i, int want) {
        asked++;
        due.thrown("'" + sentence + "': " + call, x, d, i, want);
    }

    private void leave() {
        due.is("nothing is asked about '" + sentence + "'", asked == 0 ? 1 : 0, 0);
        asked = 0;
    }

    void end() {
        leave();
        lookAtAll(document.indexOf("==== I. BLADES"), document.indexOf("Ahead of the calls `hedge`"));
        lookAtAll(placeOf(1), placeOf(PROMISES + 1));
        due.end();
    }

    private void lookAtAll(int from, int to) {
        for (int i = from; i < to; i++) {
            if (!isSaid[i] && Character.isLetterOrDigit(document.charAt(i))) {
                int end = i;
                while (end < to && !isSaid[end]) {
                    end++;
                }
                due.is("no test tells of '" + document.substring(i, end) + "'", 1, 0);
                i = end;
            }
        }
    }
}
