/** Promise 7: before. */
public final class BeforeTest {
    public static void main(String[] args) {
        Check check = new Check();
        NearWords x = Typist.with("b", "ab", "abc", "B", "zebra", "~");
        check.due("an empty row", 0, x.before());
        check.due("the first possible row", 0, Typist.before(x, "!"));
        check.due("INPUT is taken", 0, x.count(0));
        check.due("a word", 1, Typist.before(x, "ab"));
        check.due("a row that begins words", 1, Typist.before(x, "a"));
        check.due("a row that a word begins", 2, Typist.before(x, "abb"));
        check.due("a longer row", 3, Typist.before(x, "abca"));
        check.due("the last word", 5, Typist.before(x, "~"));
        check.due("behind all", 6, Typist.before(x, "~~"));
        check.due("sixty CHARACTERS behind all", 6, Typist.before(x, "~".repeat(60)));
        check.due("* is a CHARACTER", 0, Typist.before(x, "*"));
        check.due("? is a CHARACTER", 0, Typist.before(x, "?"));
        check.due("WORDS stay", 6, x.count(1));
        Typist.like(x, "z*");
        Typist.before(x, "a");
        check.due("RESULT stays", "zebra/0", Typist.result(x));
        many(check);
        check.end();
    }

    private static void many(Check check) {
        NearWords x = new NearWords();
        for (int i = 0; i < 90; i++) {
            Typist.add(x, Integer.toString(100 + i * 37 % 90));
            int less = 0;
            for (int j = 0; j <= i; j++) {
                less += j * 37 % 90 < i ? 1 : 0;
            }
            check.due("before " + (100 + i) + " with " + (i + 1), less, Typist.before(x, Integer.toString(100 + i)));
        }
    }
}
