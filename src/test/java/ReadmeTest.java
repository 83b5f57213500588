import java.io.IOException;
import java.nio.file.Files;
import java.nio.file.Path;
import java.util.List;

/** README.md: the calls of its example answer what it says. It is read from the directory that the test runs in. */
public final class ReadmeTest {
    private static final int OVER = 0x6f766572;

    private final Check check;
    private final List<String> lines;
    private int line;

    private ReadmeTest(Check check, List<String> lines) {
        this.check = check;
        this.lines = lines;
        line = lines.indexOf("NearWords words = new NearWords();");
    }

    public static void main(String[] args) throws IOException {
        Check check = new Check();
        new ReadmeTest(check, Files.readAllLines(Path.of("README.md"))).example();
        check.end();
    }

    private void example() {
        NearWords words = new NearWords();
        check.due("an example is there", true, line >= 0);
        answers("type(0x6f766572L, 0L)", words.type(OVER, 0L));
        answers("add()", words.add());
        answers("type(0x636f766572L, 0L)", words.type(0x636f766572L, 0L));
        answers("add()", words.add());
        answers("type(0x6f766572L, 0L)", words.type(OVER, 0L));
        answers("near(1)", words.near(1));
        answers("letter(0, 0)", words.letter(0, 0));
        answers("distance(0)", words.distance(0));
        answers("type(0x2a766572L, 0L)", words.type(0x2a766572L, 0L));
        answers("like()", words.like());
        answers("type(0x6dL, 0L)", words.type(0x6dL, 0L));
        answers("before()", words.before());
        answers("type(0x6f766572L, 0L)", words.type(OVER, 0L));
        answers("remove()", words.remove());
        answers("count(4)", words.count(4));
        line++;
        check.due("the end of the example", "```", lines.get(line));
    }

    /** The next line of the example has this call, and behind it, first of all, its answer. */
    private void answers(String call, int answer) {
        line++;
        String told = lines.get(line).replaceFirst("^(.*;) +// (-?[0-9]+).*$", "$1 $2");
        check.due("line " + (line + 1), "words." + call + "; " + answer, told);
    }
}
