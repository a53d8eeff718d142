import java.io.IOException;
import java.nio.file.Files;
import java.nio.file.Path;

/**
 * What the tests that walk through the document share. They quote it word for word, from one place to
 * another, and behind each quotation stands what shows it: so a sentence without a trial is told.
 */
public abstract class Sentences extends Boundaries {
    private static final Path DOCUMENT = Path.of("../shared/DOC.md");
    private static final int SHOWN = 60;
    private static final StringBuilder quoted = new StringBuilder();

    /** The words that the trials behind this call show. */
    static void says(String words) {
        quote(words);
        sentence("'" + words + "'");
    }

    /** Words that no call's answer can show; a comment beside the call says why. */
    static void passes(String words) {
        quote(words);
    }

    private static void quote(String words) {
        quoted.append(quoted.length() == 0 ? "" : " ").append(words);
    }

    /** All that was quoted must be the document from its words 'first' on to just before its words 'behind'. */
    static void finishWalk(String first, String behind) throws IOException {
        String text = plain(Files.readString(DOCUMENT));
        int start = text.indexOf(first);
        int end = text.indexOf(behind, start + 1);
        under("the document from '" + first + "' to '" + behind + "'");
        if (start < 0 || end < 0) {
            fault("the document has no such words");
        } else {
            compare(text.substring(start, end).trim(), quoted.toString());
        }
        finish();
    }

    /** Without the fences of code, and with one space wherever there is any. */
    private static String plain(String text) {
        return text.replaceAll("(?m)^```.*$", "").replaceAll("\\s+", " ");
    }

    private static void compare(String due, String got) {
        int same = 0;
        while (same < due.length() && same < got.length() && due.charAt(same) == got.charAt(same)) {
            same++;
        }
        if (same < due.length() || same < got.length()) {
            fault("quoted is '" + part(got, same) + "' where the document says '" + part(due, same) + "'");
        }
    }

    private static String part(String text, int from) {
        return text.substring(from, Math.min(text.length(), from + SHOWN));
    }
}
