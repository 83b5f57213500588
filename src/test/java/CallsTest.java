/** The first section: runs of just 512 calls, the last of which answers as due. */
public final class CallsTest {
    private static final int CALLS = 512;
    private static final String AT_MOST = "An object is used for at most 512 calls after it has been made";

    private final NearWords x = new NearWords();
    private int calls = 0;

    public static void main(String[] args) {
        Check check = new Check();
        mostWords(check);
        lastIsLetter(check);
        mostCharacters(check);
        lastIsNear(check);
        comeAndGo(check);
        nothingTyped(check);
        refused(check);
        check.end();
    }

    private static void mostWords(Check check) {
        check.sentence(AT_MOST + ": as many WORDS as there can be");
        CallsTest run = new CallsTest();
        for (int i = 0; i < 255; i++) {
            run.add(check, "word" + (i * 7 % 255 + 100), i + 1);
        }
        run.type(check, "word999");
        run.call(check, 256, run.x::add);
        run.isOver(check);
    }

    private static void lastIsLetter(Check check) {
        check.sentence(AT_MOST + ": RESULT is looked at last");
        CallsTest run = new CallsTest();
        for (int i = 0; i < 254; i++) {
            run.add(check, "word" + (i * 7 % 254 + 100), i + 1);
        }
        run.type(check, "w*");
        run.call(check, 254, run.x::like);
        run.call(check, '9', () -> run.x.letter(49, 6));
        run.call(check, 0, () -> run.x.distance(49));
        run.isOver(check);
    }

    private static void mostCharacters(Check check) {
        check.sentence(AT_MOST + ": as many CHARACTERS as there can be");
        CallsTest run = new CallsTest();
        for (int i = 0; i < 102; i++) {
            run.add(check, Typist.longWord(i * 7 % 102), i + 1);
        }
        run.call(check, 102 * 60, () -> run.x.count(2));
        run.call(check, 60, () -> run.x.count(4));
        run.isOver(check);
    }

    private static void lastIsNear(Check check) {
        check.sentence(AT_MOST + ": near among long WORDS comes last");
        CallsTest run = new CallsTest();
        for (int i = 0; i < 101; i++) {
            run.add(check, Typist.longWord(i * 7 % 101), i + 1);
        }
        run.call(check, 60, () -> run.x.count(4));
        run.call(check, 101, () -> run.x.count(1));
        run.type(check, "999" + "x".repeat(57));
        run.call(check, 50, () -> run.x.near(3));
        run.isOver(check);
    }

    private static void comeAndGo(Check check) {
        check.sentence(AT_MOST + ": a WORD comes and goes all the time");
        CallsTest run = new CallsTest();
        while (run.calls < CALLS) {
            run.add(check, "over", 1);
            run.type(check, "over");
            run.call(check, 0, run.x::remove);
        }
        run.isOver(check);
    }

    private static void nothingTyped(Check check) {
        check.sentence(AT_MOST + ": nothing is typed all the time");
        CallsTest run = new CallsTest();
        while (run.calls < CALLS) {
            run.call(check, 0, () -> run.x.type(0L, 0L));
        }
        run.isOver(check);
    }

    private static void refused(Check check) {
        check.sentence(AT_MOST + ": all calls but the last are refused");
        CallsTest run = new CallsTest();
        Check.Call[] bad = {
            () -> run.x.type(32L, 0L), run.x::add, run.x::remove, () -> run.x.near(0), () -> run.x.letter(0, 0),
            () -> run.x.distance(0), () -> run.x.near(4),
        };
        while (run.calls < CALLS - 1) {
            check.bad("call " + run.calls, bad[run.calls % bad.length]);
            run.calls++;
        }
        run.call(check, 1, () -> run.x.type(33L, 0L));
        run.isOver(check);
    }

    private void add(Check check, String word, int want) {
        type(check, word);
        call(check, want, x::add);
    }

    private void type(Check check, String text) {
        int length = 0;
        for (long[] pair : Typist.numbers(text)) {
            length = Math.min(length + 16, text.length());
            call(check, length, () -> x.type(pair[0], pair[1]));
        }
    }

    private void call(Check check, long want, Check.Call call) {
        calls++;
        check.due("call " + calls, Long.toString(want), Check.outcome(call));
    }

    private void isOver(Check check) {
        check.due("calls in this run", CALLS, calls);
    }
}
