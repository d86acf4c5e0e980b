import java.io.IOException;
import java.nio.file.Files;
import java.nio.file.Path;

/**
 * Goes through a part of DOC.md in its order: each piece that a test says must be what comes next, blanks and
 * line ends aside, so that no sentence of the document is left out, and a changed one is seen.
 */
final class Document {
    private final Check check;
    private final String text;
    private final int to;
    private int at;

    /** The part from the first place of one text to that of another behind it (null: to the end). */
    Document(Check check, String from, String to) throws IOException {
        this.check = check;
        text = plain(Files.readString(Path.of("../shared/DOC.md")));
        at = Math.max(0, text.indexOf(plain(from)));
        this.to = to == null ? text.length() : text.indexOf(plain(to), at);
        check.due("the document has '" + from + "'", text.startsWith(plain(from), at), true);
        check.due("the document has '" + to + "' behind", this.to > at, true);
    }

    private static String plain(String piece) {
        return piece.replaceAll("\\s+", " ").trim();
    }

    void says(String piece) {
        String due = plain(piece);
        if (!text.startsWith(due, at)) {
            check.due("the document's next words", text.substring(at, Math.min(to, at + due.length())), due);
            return;
        }
        at += due.length();
        while (at < text.length() && text.charAt(at) == ' ') {
            at++;
        }
    }

    /** Leaves out what another test holds: up to the next place of a text, which comes next then. */
    void leavesOut(String until) {
        int next = text.indexOf(plain(until), at);
        check.due("the document has '" + until + "' behind what is left out", next >= at && next < to, true);
        at = Math.max(at, next);
    }

    void end() {
        check.due("the rest that no test says", text.substring(Math.min(at, to), to), "");
    }
}
