import java.util.List;
import java.util.Random;

/** Promises 1 to 10: long runs of calls, the same ones each time, answered by the class and by the model. */
public final class RandomRunsTest {
    private static final int CALLS = 512;
    private static final int RUNS = 600;
    private static final String[] ALPHABETS = {
        "ab", "abc", "abcdefghijklmnopqrstuvwxyz", "a*?", "!~", "aab*", "abcd?",
    };

    private final Check check;
    private final Random random;
    private final NearWords x = new NearWords();
    private final Model model = new Model();
    private final String alphabet;
    private final int usual;
    private final String name;
    private int calls = 0;

    private RandomRunsTest(Check check, int run) {
        this.check = check;
        random = new Random(run);
        alphabet = ALPHABETS[random.nextInt(ALPHABETS.length)];
        usual = new int[] {2, 4, 8, 60}[random.nextInt(4)];
        name = "run " + run + ", call ";
    }

    public static void main(String[] args) {
        Check check = new Check();
        for (int run = 0; run < RUNS; run++) {
            new RandomRunsTest(check, run).play();
        }
        check.end();
    }

    private void play() {
        int adding = random.nextInt(3);
        while (calls < CALLS) {
            int kind = random.nextInt(12);
            if (kind < 3 + adding) {
                type(row());
                both("add()", x::add, model::add);
            } else if (kind == 5) {
                type(random.nextBoolean() ? row() : nearRow());
                both("remove()", x::remove, model::remove);
            } else if (kind < 8) {
                near();
            } else if (kind == 8) {
                type(pattern());
                both("like()", x::like, model::like);
                look();
            } else if (kind == 9) {
                type(random.nextBoolean() ? row() : nearRow());
                both("before()", x::before, model::before);
            } else {
                oddCall();
            }
        }
    }

    private void near() {
        int n = random.nextInt(12) == 0 ? random.nextInt(9) - 3 : random.nextInt(4);
        type(nearRow());
        both("near(" + n + ")", () -> x.near(n), () -> model.near(n));
        look();
    }

    private void look() {
        both("count(3)", () -> x.count(3), () -> model.count(3));
        for (int times = random.nextInt(8); times > 0; times--) {
            int i = random.nextInt(Math.max(1, model.count(3)) + 1) - (random.nextInt(20) == 0 ? 1 : 0);
            int k = random.nextInt(usual + 2) - (random.nextInt(20) == 0 ? 1 : 0);
            both("letter(" + i + ", " + k + ")", () -> x.letter(i, k), () -> model.letter(i, k));
            both("distance(" + i + ")", () -> x.distance(i), () -> model.distance(i));
        }
    }

    private void oddCall() {
        int what = random.nextInt(8) - 1;
        both("count(" + what + ")", () -> x.count(what), () -> model.count(what));
        switch (random.nextInt(10)) {
            case 0 -> both("add()", x::add, model::add);
            case 1 -> both("remove()", x::remove, model::remove);
            case 2 -> both("like()", x::like, model::like);
            case 3 -> both("before()", x::before, model::before);
            case 4 -> type(row());
            case 5 -> typeNumbers(random.nextLong(), 0L);
            case 6 -> typeNumbers(random.nextLong() & 0x7F007F00007F0000L, random.nextLong() & 0x3F00L);
            default -> look();
        }
    }

    private void type(String text) {
        for (long[] pair : Typist.numbers(text)) {
            typeNumbers(pair[0], pair[1]);
        }
    }

    private void typeNumbers(long first, long second) {
        both("type(" + first + ", " + second + ")", () -> x.type(first, second), () -> model.type(first, second));
    }

    private void both(String call, Check.Call one, Check.Call other) {
        calls++;
        check.due(name + calls + " " + call, Check.outcome(other), Check.outcome(one));
    }

    private String row() {
        StringBuilder row = new StringBuilder();
        for (int length = 1 + random.nextInt(usual); length > 0; length--) {
            row.append(character());
        }
        return row.toString();
    }

    /** A word with some steps done to it. */
    private String nearRow() {
        List<String> words = model.words();
        StringBuilder row = new StringBuilder(words.isEmpty() ? row() : words.get(random.nextInt(words.size())));
        for (int steps = random.nextInt(5); steps > 0 && row.length() > 1; steps--) {
            int at = random.nextInt(row.length() - 1);
            switch (random.nextInt(4)) {
                case 0 -> row.insert(at, character());
                case 1 -> row.deleteCharAt(at);
                case 2 -> row.setCharAt(at, character());
                default -> changePlaces(row, at);
            }
        }
        return row.substring(0, Math.min(60, row.length()));
    }

    private static void changePlaces(StringBuilder row, int at) {
        char first = row.charAt(at);
        row.setCharAt(at, row.charAt(at + 1));
        row.setCharAt(at + 1, first);
    }

    private String pattern() {
        StringBuilder row = new StringBuilder(nearRow());
        for (int times = random.nextInt(5); times > 0; times--) {
            int at = random.nextInt(row.length() + 1);
            if (random.nextBoolean()) {
                row.insert(at, random.nextBoolean() ? "*" : "**");
            } else if (at < row.length()) {
                row.setCharAt(at, random.nextBoolean() ? '?' : '*');
            }
            row.delete(at, Math.min(row.length(), at + random.nextInt(3)));
        }
        return row.substring(0, Math.min(60, row.length()));
    }

    private char character() {
        return alphabet.charAt(random.nextInt(alphabet.length()));
    }
}
