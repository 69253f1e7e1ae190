import java.io.IOException;
import java.nio.file.Files;
import java.nio.file.Path;
import java.util.ArrayList;
import java.util.List;
import java.util.regex.Matcher;
import java.util.regex.Pattern;

/** README.md's example answers what stands behind its calls; run from the project's directory. */
public final class ReadmeTest {
    private static final Check check = new Check("ReadmeTest");
    private static final Pattern ANSWERED = Pattern.compile("(page\\.[^;]*);\\s*// (-?\\d+):.*");

    private static final List<String> calls = new ArrayList<>();
    private static final List<Long> answers = new ArrayList<>();
    private static int asked = 0;

    public static void main(String[] args) throws IOException {
        for (String line : Files.readAllLines(Path.of("README.md"))) {
            Matcher answered = ANSWERED.matcher(line);
            if (answered.matches()) {
                calls.add(answered.group(1));
                answers.add(Long.valueOf(answered.group(2)));
            }
        }
        example();
        check.due("README's answered calls", calls.size(), asked);
        check.end();
    }

    private static void example() {
        StaffHeads page = new StaffHeads(10);
        int c = page.note(0, 0, 5, 0, 4, 3, 2);
        int d = page.note(0, 1, 5, 1, 4, 1, 2);
        told("page.of(c, 1)", page.of(c, 1));
        told("page.of(c, 3)", page.of(c, 3));
        told("page.of(d, 7)", page.of(d, 7));
        told("page.of(d, 6)", page.of(d, 6));
        told("page.height(c)", page.height(c));
        told("page.at(0, 5, 1)", page.at(0, 5, 1));
        told("page.gap(1)", page.gap(1));
        told("page.place(1)", page.place(1));
        told("page.crowded(0)", page.crowded(0));
        told("page.clef(0, 2, 4)", page.clef(0, 2, 4));
        told("page.of(c, 0)", page.of(c, 0));
        told("page.shift(0, 0, 9, 1)", page.shift(0, 0, 9, 1));
        told("page.of(c, 0)", page.of(c, 0));
        told("page.hides(true)", page.hides(true));
        told("page.place(1)", page.place(1));
        told("page.drop(c)", page.drop(c));
        told("page.of(1, 0)", page.of(1, 0));
    }

    /** The next answered call of README.md is this one, with this answer. */
    private static void told(String call, long got) {
        boolean there = asked < calls.size();
        check.holds("README's next call is " + call, there && calls.get(asked).equals(call));
        if (there) {
            check.due(call, got, answers.get(asked));
        }
        asked++;
    }
}
