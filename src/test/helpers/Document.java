import java.io.IOException;
import java.nio.file.Files;
import java.nio.file.Path;
import java.util.ArrayList;
import java.util.List;

/** The document, cut into its terms (0) and its promises (1 to 45), each on one line. */
final class Document {
    static final int PROMISES = 45;
    private final String[] parts = new String[PROMISES + 1];

    Document() throws IOException {
        String all = Files.readString(Path.of("../shared/DOC.md"));
        parts[0] = onOneLine(terms(between(all, "\n## Terms\n", "\n## Promise 1:")));
        for (int p = 1; p <= PROMISES; p++) {
            String next = p < PROMISES ? "\n## Promise " + (p + 1) + ":" : "\n## Not promised";
            String promise = between(all, "\n## Promise " + p + ":", next);
            // What stands ahead of the first "`: " is the heading and how the call is written.
            parts[p] = onOneLine(promise.substring(promise.indexOf("`: ") + 3));
        }
    }

    String part(int p) {
        return parts[p];
    }

    /** The sentences of a part; two points (as in "0, 1, ..") end none. */
    List<String> sentences(int p) {
        List<String> sentences = new ArrayList<>();
        for (String sentence : parts[p].split("(?<=[^.]\\.)\\s+(?=[A-Z0-9])")) {
            sentences.add(sentence.trim());
        }
        return sentences;
    }

    /** The terms without marks of their form, and without the lines on the interface's own comments. */
    private static String terms(String text) {
        return text.replaceAll("(?m)^```.*$", "").replaceAll("(?m)^\\d\\. ", "").replaceAll("(?m)^Ahead of the calls .*$", "");
    }

    private static String between(String all, String from, String to) {
        int start = all.indexOf(from);
        int end = all.indexOf(to, start + 1);
        if (start < 0 || end < 0) {
            throw new IllegalStateException("the document has no part from " + from.trim() + " to " + to.trim());
        }
        return all.substring(start + from.length(), end);
    }

    private static String onOneLine(String text) {
        return text.replaceAll("\\s+", " ").trim();
    }
}
