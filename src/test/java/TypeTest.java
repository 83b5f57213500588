/** Promise 2: type. */
public final class TypeTest {
    private static final String SIXTY = "abcdefghij".repeat(6);

    public static void main(String[] args) {
        Check check = new Check();
        order(check);
        range(check);
        limit(check);
        check.end();
    }

    private static void order(Check check) {
        NearWords x = new NearWords();
        check.due("type(0, 0)", 0, x.type(0L, 0L));
        check.due("three CHARACTERS", 3, x.type(Typist.number("ab"), Typist.number("c")));
        check.due("zeros between", 5, x.type(0x6400000000000000L, 0x0000000065000000L));
        check.due("type(0, 0) again", 5, x.type(0L, 0L));
        check.due("sixteen at once", 21, x.type(Typist.number("ABCDEFGH"), Typist.number("IJKLMNOP")));
        x.add();
        Typist.like(x, "*");
        check.due("what was typed", "abcdeABCDEFGHIJKLMNOP/0", Typist.result(x));
        check.due("a new INPUT", 1, x.type(0L, 65L));
    }

    private static void range(Check check) {
        for (int character = 0; character < 256; character++) {
            for (int shift = 0; shift < 64; shift += 8) {
                NearWords x = new NearWords();
                x.type(97L, 98L);
                long number = (long) character << shift;
                boolean fine = character >= 33 && character <= 126;
                String want = fine ? "3" : character == 0 ? "2" : Check.BAD;
                String what = "byte " + character + " at bit " + shift;
                check.due(what + " first", want, Check.outcome(() -> x.type(number, 0L)));
                check.due(what + " first, INPUT", fine ? 3 : 2, x.count(0));
                check.due(what + " second", fine ? "4" : want, Check.outcome(() -> x.type(0L, number)));
                check.due(what + " second, INPUT", fine ? 4 : 2, x.count(0));
            }
        }
        NearWords x = new NearWords();
        check.bad("-1", () -> x.type(-1L, 0L));
        check.bad("the least number", () -> x.type(65L, Long.MIN_VALUE));
        check.bad("the greatest number", () -> x.type(Long.MAX_VALUE, 0L));
        check.bad("a good byte and a bad one", () -> x.type(0x4120L, 0L));
        check.due("nothing was typed", 0, x.count(0));
    }

    private static void limit(Check check) {
        NearWords x = new NearWords();
        check.due("60 CHARACTERS", 60, Typist.type(x, SIXTY));
        check.full("one more", () -> x.type(0L, 97L));
        check.due("none more", 60, x.type(0L, 0L));
        check.bad("bad goes before FULL", () -> x.type(97L, 32L));
        check.bad("bad alone when INPUT is full", () -> x.type(127L, 0L));
        check.due("INPUT is as it was", 60, x.count(0));
        x.add();
        Typist.like(x, "*");
        check.due("the word", SIXTY + "/0", Typist.result(x));

        Typist.type(x, SIXTY.substring(0, 45));
        check.full("16 behind 45", () -> x.type(Typist.number("ABCDEFGH"), Typist.number("IJKLMNOP")));
        check.due("none of them was typed", 45, x.count(0));
        check.due("15 behind 45", 60, x.type(Typist.number("ABCDEFG"), Typist.number("IJKLMNOP")));
    }
}
