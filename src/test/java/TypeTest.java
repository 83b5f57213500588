/** Promise 2: type. */
public final class TypeTest {
    private static final String SIXTY = "abcdefghij".repeat(6);
    private static final long EIGHT = Typist.number("ABCDEFGH");

    public static void main(String[] args) {
        Check check = new Check();
        highestFirst(check);
        zerosLeftOut(check);
        bad(check);
        badAmongGood(check);
        full(check);
        badBeforeFull(check);
        length(check);
        check.end();
    }

    private static void highestFirst(Check check) {
        check.sentence("INPUT gets the bytes of the two numbers more, highest first");
        NearWords x = new NearWords();
        x.type(Typist.number("abcdefgh"), Typist.number("ijklmnop"));
        x.add();
        check.due("sixteen at once", "abcdefghijklmnop", Typist.words(x));
        x.type(0L, Typist.number("z"));
        x.type(Typist.number("yx"), 0L);
        x.type(Typist.number("w"), Typist.number("vu"));
        x.add();
        check.due("behind what was there", "abcdefghijklmnop zyxwvu", Typist.words(x));
    }

    private static void zerosLeftOut(Check check) {
        check.sentence("those that are 0 left out");
        NearWords x = new NearWords();
        check.due("type(0, 0)", 0, x.type(0L, 0L));
        check.bad("INPUT is empty still", x::add);
        check.due("the highest and the lowest byte", 2, x.type(0x6100000000000062L, 0L));
        check.due("between zeros", 4, x.type(0x0000630000000000L, 0x0000000064000000L));
        check.due("type(0, 0) changes nothing", 4, x.type(0L, 0L));
        x.add();
        check.due("the WORD", "abcd", Typist.words(x));
        Typist.type(x, SIXTY);
        check.due("type(0, 0) when there is no room", 60, x.type(0L, 0L));
    }

    private static void bad(Check check) {
        check.sentence("One that's not 33 .. 126: bad");
        for (int character = 0; character < 256; character++) {
            for (int shift = 0; shift < 64; shift += 8) {
                NearWords x = new NearWords();
                x.type(97L, 98L);
                long number = (long) character << shift;
                boolean fine = character >= 33 && character <= 126;
                String want = fine ? "3" : character == 0 ? "2" : Check.BAD;
                String what = "byte " + character + " at bit " + shift;
                check.due(what + " first", want, Check.outcome(() -> x.type(number, 0L)));
                check.due(what + " first, INPUT", fine ? 3 : 2, x.count(0));
                check.due(what + " second", fine ? "4" : want, Check.outcome(() -> x.type(0L, number)));
                check.due(what + " second, INPUT", fine ? 4 : 2, x.count(0));
            }
        }
    }

    private static void badAmongGood(Check check) {
        check.sentence("One that's not 33 .. 126: one is enough");
        NearWords x = new NearWords();
        for (int shift = 0; shift < 64; shift += 8) {
            for (long character : new long[] {1, 32, 127, 128, 255}) {
                long number = EIGHT & ~(255L << shift) | character << shift;
                check.bad(character + " at bit " + shift + " first", () -> x.type(number, EIGHT));
                check.bad(character + " at bit " + shift + " second", () -> x.type(EIGHT, number));
            }
        }
        for (long number : new long[] {-1L, Long.MIN_VALUE, Long.MAX_VALUE, Integer.MIN_VALUE, 0x80L, 0x8000000041414141L}) {
            check.bad(number + " first", () -> x.type(number, 0L));
            check.bad(number + " second", () -> x.type(65L, number));
        }
        check.due("nothing was typed", 0, x.count(0));
    }

    private static void full(Check check) {
        check.sentence("more than 60 in all: FULL");
        for (int there = 40; there <= 60; there++) {
            for (int more = 0; more <= 16; more++) {
                NearWords x = new NearWords();
                Typist.type(x, SIXTY.substring(0, there));
                long first = Typist.number("ABCDEFGH".substring(0, Math.min(more, 8)));
                long second = Typist.number("IJKLMNOP".substring(0, Math.max(0, more - 8)));
                String want = there + more <= 60 ? Integer.toString(there + more) : Check.FULL;
                check.due(more + " behind " + there, want, Check.outcome(() -> x.type(first, second)));
                check.due("INPUT then", there + more <= 60 ? there + more : there, x.count(0));
            }
        }
        NearWords x = new NearWords();
        Typist.type(x, SIXTY);
        check.full("one more", () -> x.type(0L, 97L));
        x.add();
        check.due("the WORD", SIXTY, Typist.words(x));
    }

    private static void badBeforeFull(Check check) {
        check.sentence("One that's not 33 .. 126: bad; more than 60 in all: FULL: both");
        NearWords x = new NearWords();
        Typist.type(x, SIXTY);
        check.bad("a bad byte alone", () -> x.type(127L, 0L));
        check.bad("a bad byte behind a good one", () -> x.type(97L, 32L));
        check.bad("a bad byte before a good one", () -> x.type(32L, 97L));
        check.due("INPUT is as it was", 60, x.count(0));
    }

    private static void length(Check check) {
        check.sentence("Answers its length.");
        NearWords x = new NearWords();
        check.due("1", 1, x.type(97L, 0L));
        check.due("3", 3, x.type(98L, 99L));
        check.due("19", 19, x.type(EIGHT, EIGHT));
        check.due("60", 60, Typist.type(x, SIXTY.substring(19)));
        x.before();
        check.due("a new INPUT", 1, x.type(0L, 65L));
    }
}
