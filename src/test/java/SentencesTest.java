import java.io.IOException;
import java.nio.file.Files;
import java.nio.file.Path;
import java.util.List;
import java.util.regex.Matcher;
import java.util.regex.Pattern;
import java.util.stream.Stream;

/** That the tests by sentences leave out no promise, no Term, and no ERROR that a promise names. */
public final class SentencesTest {
    private static final Path DOC = Path.of("../shared/DOC.md");
    private static final Path TESTS = Path.of("src/test/java");
    private static final Pattern TEST = Pattern.compile("s\\.test\\(\"([^\"]+)\", \"([^\"]+)\"(?:\\s*\\+ \"([^\"]+)\")?");
    private static final Pattern PROMISE = Pattern.compile("## (Promise \\d+): [^\n]+\n\n`[^`]+`: ([^\n]+)");
    private static final Pattern ERROR = Pattern.compile("\\b(BEYOND|NONE|STATE|FULL|PARTED)\\b|KIND:");

    private record Sentence(String where, String words) {
    }

    private SentencesTest() {
    }

    public static void main(String[] args) throws IOException {
        Due due = new Due("SentencesTest");
        List<Sentence> tested = tested();
        for (String where : List.of("ERRORS", "Term 1", "Term 2", "Term 3", "Term 4")) {
            due.holds(tested.stream().anyMatch(s -> s.where.equals(where)), "a test of " + where);
        }
        Matcher promise = PROMISE.matcher(Files.readString(DOC));
        int promises = 0;
        while (promise.find()) {
            promises++;
            String where = promise.group(1);
            due.holds(tested.stream().anyMatch(s -> s.where.equals(where)), "a test of " + where);
            Matcher error = ERROR.matcher(promise.group(2));
            while (error.find()) {
                String name = error.group();
                due.holds(tested.stream().anyMatch(s -> s.where.equals(where) && s.words.contains(name)), "a test of " + where + ", " + name);
            }
        }
        due.is(36, promises, "promises of the document");
        due.close();
    }

    private static List<Sentence> tested() throws IOException {
        try (Stream<Path> files = Files.list(TESTS)) {
            return files.filter(f -> f.toString().endsWith("BoundaryTest.java")).flatMap(f -> TEST.matcher(read(f)).results())
                .map(m -> new Sentence(m.group(1), m.group(2) + (m.group(3) == null ? "" : m.group(3)))).toList();
        }
    }

    private static String read(Path file) {
        try {
            return Files.readString(file);
        } catch (IOException e) {
            throw new IllegalStateException(e);
        }
    }
}
