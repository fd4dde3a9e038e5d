import java.io.IOException;
import java.nio.file.Files;
import java.nio.file.Path;
import java.util.function.Consumer;

/** Tests of single sentences: each names its promise or Term, and quotes the words that it holds the class to. */
final class Sentences {
    private static final Path DOC = Path.of("../shared/DOC.md");

    private final Due due;
    private final String doc;

    Sentences(String test) throws IOException {
        due = new Due(test);
        doc = Files.readString(DOC);
    }

    void test(String where, String words, Consumer<Due> body) {
        due.of(where + ": " + words);
        due.holds(part(where).contains(words), "the document says so there");
        int asked = due.asked();
        body.accept(due);
        due.holds(due.asked() > asked, "something was asked");
    }

    void close() {
        due.close();
    }

    /** The part of the document that a test names: "What it is", "ERRORS", "Term 1" to "Term 4", "Promise 1" to "Promise 36". */
    private String part(String where) {
        if (where.equals("ERRORS")) {
            return between("\nERRORS are ", "\n1. THE PASS");
        }
        if (where.startsWith("Term ")) {
            int n = Integer.parseInt(where.substring(5));
            return between("\n" + n + ". ", n < 4 ? "\n" + (n + 1) + ". " : "\nAhead of the calls");
        }
        return between("\n## " + where + (where.startsWith("Promise ") ? ": " : "\n"), "\n## ");
    }

    private String between(String from, String to) {
        int start = doc.indexOf(from);
        int end = start < 0 ? -1 : doc.indexOf(to, start + from.length());
        return end < 0 ? "" : doc.substring(start, end);
    }
}
