/** Terms: "bad", FULL, and what a refused call changes. */
public final class RefusedTest {
    private static final String SIXTY = "abcdefghij".repeat(6);

    public static void main(String[] args) {
        Check check = new Check();
        bad(check);
        numberFirst(check);
        full(check);
        typeChangesNothing(check);
        takersChangeInputOnly(check);
        fullAddChangesInputOnly(check);
        lookersChangeNothing(check);
        nextCallIsAnswered(check);
        check.end();
    }

    private static void bad(Check check) {
        check.sentence("\"Bad\" is IllegalArgumentException");
        NearWords x = new NearWords();
        check.bad("type", () -> x.type(1L, 0L));
        check.bad("add", x::add);
        check.bad("remove", x::remove);
        check.bad("near", () -> x.near(0));
        check.bad("letter", () -> x.letter(0, 0));
        check.bad("distance", () -> x.distance(0));
    }

    private static void numberFirst(Check check) {
        check.sentence("a number out of range first, then INPUT not as it must be");
        NearWords x = Typist.with("over");
        check.bad("n out of range, INPUT empty", () -> x.near(-1));
        check.bad("n too large, INPUT empty", () -> x.near(4));
        check.bad("n in range, INPUT empty", () -> x.near(3));
        Typist.type(x, "over");
        check.bad("n out of range, INPUT as it must be", () -> x.near(4));
        Typist.type(x, SIXTY);
        check.bad("a byte out of range where there is no room", () -> x.type(32L, 97L));
    }

    private static void full(Check check) {
        check.sentence("FULL is IndexOutOfBoundsException");
        NearWords x = new NearWords();
        Typist.type(x, SIXTY);
        check.full("type", () -> x.type(97L, 0L));
        NearWords words = Typist.withThousandWords();
        Typist.type(words, "x");
        check.full("add, too many WORDS", words::add);
        NearWords characters = Typist.withLongWords(200);
        Typist.type(characters, "a");
        check.full("add, too many CHARACTERS", characters::add);
    }

    /** over and cover are WORDS, both in RESULT. */
    private static NearWords used() {
        NearWords x = Typist.with("over", "cover");
        Typist.near(x, "over", 1);
        return x;
    }

    private static void typeChangesNothing(Check check) {
        check.sentence("A refused call changes nothing: type");
        NearWords x = used();
        Typist.type(x, SIXTY.substring(0, 50));
        String due = Typist.seen(x);
        check.due("before", "50 2 9 2 5 cover/1 over/0", due);
        check.bad("a bad byte", () -> x.type(0x6120L, 0L));
        check.due("after a bad byte", due, Typist.seen(x));
        check.bad("a bad byte in the second number", () -> x.type(97L, 127L));
        check.due("after one in the second number", due, Typist.seen(x));
        check.full("11 more", () -> x.type(Typist.number("ABCDEFGH"), Typist.number("IJK")));
        check.due("after 11 more", due, Typist.seen(x));
        check.due("10 more", 60, x.type(Typist.number("abcdefgh"), Typist.number("ij")));
        x.add();
        check.due("INPUT was as before", SIXTY + " cover over", Typist.words(x));
    }

    private static void takersChangeInputOnly(Check check) {
        check.sentence("A refused call changes nothing, but INPUT as said: add, remove, near");
        NearWords x = used();
        String due = Typist.seen(x);
        check.due("before", "0 2 9 2 5 cover/1 over/0", due);
        check.bad("add of nothing", x::add);
        check.due("after add", due, Typist.seen(x));
        check.bad("remove of nothing", x::remove);
        check.due("after remove", due, Typist.seen(x));
        for (int n : new int[] {0, 3, -1, 4, Integer.MIN_VALUE, Integer.MAX_VALUE}) {
            check.bad("near(" + n + ") of nothing", () -> x.near(n));
            check.due("after near(" + n + ") of nothing", due, Typist.seen(x));
        }
        for (int n : new int[] {-1, 4, Integer.MIN_VALUE, Integer.MAX_VALUE}) {
            Typist.type(x, "cove");
            check.bad("near(" + n + ")", () -> x.near(n));
            check.due("after near(" + n + ")", due, Typist.seen(x));
        }
        check.due("WORDS", "cover over", Typist.words(x));
    }

    private static void fullAddChangesInputOnly(Check check) {
        check.sentence("A refused call changes nothing, but INPUT as said: add when it is FULL");
        NearWords words = Typist.withThousandWords();
        Typist.near(words, "w111", 0);
        fullAdd(check, words, "a", "0 1000 3890 1 4 w111/0");
        fullAdd(check, words, "w5000", "0 1000 3890 1 4 w111/0");
        fullAdd(check, words, SIXTY, "0 1000 3890 1 4 w111/0");
        NearWords characters = Typist.withLongWords(199);
        Typist.add(characters, SIXTY.substring(1));
        String first = Typist.longWord(0);
        Typist.near(characters, first, 0);
        fullAdd(check, characters, "ab", "0 200 11999 1 60 " + first + "/0");
        fullAdd(check, characters, SIXTY, "0 200 11999 1 60 " + first + "/0");
    }

    private static void fullAdd(Check check, NearWords x, String word, String due) {
        check.due("before " + word, due, Typist.seen(x));
        Typist.type(x, word);
        check.full("add of " + word, x::add);
        check.due("after " + word, due, Typist.seen(x));
        String next = word.substring(0, word.length() - 1) + (char) (word.charAt(word.length() - 1) + 1);
        check.due(word + " is no WORD", Typist.before(x, word), Typist.before(x, next));
    }

    private static void lookersChangeNothing(Check check) {
        check.sentence("A refused call changes nothing: letter, distance");
        NearWords x = used();
        Typist.type(x, "input");
        String due = Typist.seen(x);
        check.due("before", "5 2 9 2 5 cover/1 over/0", due);
        for (int i : new int[] {-1, 2, Integer.MIN_VALUE, Integer.MAX_VALUE}) {
            check.bad("letter(" + i + ", 0)", () -> x.letter(i, 0));
            check.bad("distance(" + i + ")", () -> x.distance(i));
            check.due("after " + i, due, Typist.seen(x));
        }
        check.bad("letter(0, -1)", () -> x.letter(0, -1));
        check.due("after letter(0, -1)", due, Typist.seen(x));
        x.add();
        check.due("INPUT and WORDS were as before", "cover input over", Typist.words(x));
    }

    private static void nextCallIsAnswered(Check check) {
        check.sentence("A refused call changes nothing: the same call answers when it is as it must be");
        NearWords x = new NearWords();
        check.bad("add", x::add);
        check.due("add then", 1, Typist.add(x, "over"));
        check.bad("near", () -> x.near(4));
        check.due("near then", 1, Typist.near(x, "over", 3));
        check.bad("letter", () -> x.letter(1, 0));
        check.due("letter then", 'o', x.letter(0, 0));
        check.bad("distance", () -> x.distance(1));
        check.due("distance then", 0, x.distance(0));
        check.bad("remove", x::remove);
        check.due("remove then", 0, Typist.remove(x, "over"));
        check.bad("type", () -> x.type(-1L, 0L));
        check.due("type then", 1, x.type(126L, 0L));
    }
}
