import java.io.IOException;
import java.lang.reflect.Method;
import java.lang.reflect.Modifier;
import java.nio.file.Files;
import java.nio.file.Path;
import java.util.regex.Matcher;
import java.util.regex.Pattern;

/** That README.md tells the truth: each row of its example, each ERROR, all calls of the face; run in the project's folder. */
public final class ReadmeTest {
    private static final Path README = Path.of("README.md");
    private static final Pattern ROW = Pattern.compile("^ +pass\\.(\\w+)\\(([^)]*)\\); +// (-?\\d+): ", Pattern.MULTILINE);
    private static final Pattern ERROR = Pattern.compile("^\\| (\\d) \\| (\\w+) +\\| (-\\d+) \\|", Pattern.MULTILINE);
    private static final int ERRORS = 6;
    private static final int LEAST_ROWS = 20;

    private ReadmeTest() {
    }

    public static void main(String[] args) throws IOException {
        Due due = new Due("ReadmeTest");
        String text = Files.readString(README);
        example(due, text);
        errors(due, text);
        calls(due, text);
        for (String heading : new String[] {"\n## How to use it\n", "\n## How to run its tests\n"}) {
            due.holds(text.contains(heading), "the part" + heading.trim());
        }
        due.holds(text.contains("\n.ci/run\n"), "the line that runs the tests");
        due.close();
    }

    private static void example(Due due, String text) {
        AnswerPass pass = new AnswerPass();
        Matcher row = ROW.matcher(text);
        int rows = 0;
        while (row.find()) {
            rows++;
            due.is(Long.parseLong(row.group(3)), Calls.call(pass, row.group(1), numbers(row.group(2))), row.group().trim());
        }
        due.holds(rows >= LEAST_ROWS, "there are rows with answers: " + rows);
        due.is(text.lines().filter(line -> line.startsWith("        pass.")).count(), rows, "rows that were read");
    }

    private static long[] numbers(String list) {
        String[] each = list.split(", ");
        long[] numbers = new long[each.length];
        for (int i = 0; i < each.length; i++) {
            numbers[i] = Long.decode(each[i].replace("L", ""));
        }
        return numbers;
    }

    private static void errors(Due due, String text) throws IOException {
        String doc = Files.readString(Path.of("../shared/DOC.md"));
        Matcher error = ERROR.matcher(text);
        int k = 0;
        while (error.find()) {
            k++;
            due.is(k, Long.parseLong(error.group(1)), "the number of " + error.group(2));
            due.is(Due.LOW - k, Long.parseLong(error.group(3)), "the answer " + error.group(2));
            due.holds(doc.contains("LOW - " + k + " " + error.group(2)), "the document calls it " + error.group(2));
        }
        due.is(ERRORS, k, "ERRORS in the table");
    }

    private static void calls(Due due, String text) {
        for (Method m : AnswerPass.class.getDeclaredMethods()) {
            if (Modifier.isPublic(m.getModifiers())) {
                due.holds(text.contains("`" + m.getName() + "`"), m.getName() + " is in the table of calls");
            }
        }
    }
}
