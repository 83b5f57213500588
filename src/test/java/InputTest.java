/** Terms: INPUT. */
public final class InputTest {
    private static final String SIXTY = "abcdefghij".repeat(6);

    public static void main(String[] args) {
        Check check = new Check();
        emptyAtFirst(check);
        atMostSixty(check);
        characters(check);
        readAndEmpty(check);
        emptyWhenRefused(check);
        nothingIsLeft(check);
        keptByOthers(check);
        check.end();
    }

    private static void emptyAtFirst(Check check) {
        check.sentence("INPUT is [..] empty at first");
        NearWords x = new NearWords();
        check.due("its length", 0, x.count(0));
        check.bad("add has nothing to take", x::add);
        check.due("the first CHARACTER makes it 1", 1, x.type(33L, 0L));
    }

    private static void atMostSixty(Check check) {
        check.sentence("INPUT is a row of at most 60 CHARACTERS");
        NearWords x = new NearWords();
        for (int length = 1; length <= 60; length++) {
            check.due("one more", length, x.type(0L, 'a'));
        }
        check.full("CHARACTER 61", () -> x.type(0L, 'a'));
        check.due("it is 60 still", 60, x.count(0));
    }

    private static void characters(Check check) {
        check.sentence("CHARACTERS (33 .. 126)");
        NearWords x = new NearWords();
        check.bad("32", () -> x.type(32L, 0L));
        check.due("33", 1, x.type(33L, 0L));
        check.due("126", 2, x.type(126L, 0L));
        check.bad("127", () -> x.type(127L, 0L));
        x.add();
        check.due("the WORD of them", "!~", Typist.words(x));
    }

    private static void readAndEmpty(Check check) {
        check.sentence("A call that \"takes INPUT\" reads it and leaves it empty");
        NearWords x = new NearWords();
        taken(check, x, "add", x::add, 1);
        taken(check, x, "add of what is there", x::add, 1);
        taken(check, x, "near", () -> x.near(0), 1);
        taken(check, x, "like", x::like, 1);
        taken(check, x, "before", x::before, 0);
        taken(check, x, "remove", x::remove, 0);
        taken(check, x, "remove of what is not there", x::remove, 0);
    }

    private static void taken(Check check, NearWords x, String what, Check.Call call, long want) {
        Typist.type(x, "over");
        check.due(what, Long.toString(want), Check.outcome(call));
        check.due("INPUT after " + what, 0, x.count(0));
    }

    private static void emptyWhenRefused(Check check) {
        check.sentence("leaves it empty, refused or not");
        NearWords words = Typist.withThousandWords();
        Typist.type(words, "over");
        check.full("add to 1000 WORDS", words::add);
        check.due("INPUT then", 0, words.count(0));
        NearWords characters = Typist.withLongWords(200);
        Typist.type(characters, "a");
        check.full("add to 12000 CHARACTERS", characters::add);
        check.due("INPUT then", 0, characters.count(0));
        NearWords x = Typist.with("over");
        for (int n : new int[] {-1, 4}) {
            Typist.type(x, SIXTY);
            check.bad("near(" + n + ")", () -> x.near(n));
            check.due("INPUT then", 0, x.count(0));
        }
        check.bad("add of nothing", x::add);
        check.bad("remove of nothing", x::remove);
        check.bad("near of nothing", () -> x.near(3));
        check.due("INPUT then", 0, x.count(0));
    }

    private static void nothingIsLeft(Check check) {
        check.sentence("leaves it empty: nothing of it is in the next one");
        NearWords x = new NearWords();
        for (String next : new String[] {"z", "y", "xw"}) {
            Typist.type(x, SIXTY);
            x.before();
            check.due("typed behind 60 taken ones", next.length(), Typist.type(x, next));
            x.add();
        }
        check.due("the WORDS", "xw y z", Typist.words(x));
        Typist.type(x, SIXTY);
        check.bad("refused", () -> x.near(4));
        Typist.add(x, "v");
        check.due("the WORDS with one typed behind 60 refused ones", "v xw y z", Typist.words(x));
    }

    private static void keptByOthers(Check check) {
        check.sentence("A call that \"takes INPUT\": the others do not");
        NearWords x = Typist.with("over");
        Typist.like(x, "*");
        Typist.type(x, "cover");
        check.due("letter", 'o', x.letter(0, 0));
        check.bad("letter refused", () -> x.letter(1, 0));
        check.due("distance", 0, x.distance(0));
        check.bad("distance refused", () -> x.distance(1));
        check.due("count of nothing known", -1, x.count(5));
        check.due("INPUT after them", 5, x.count(0));
        x.add();
        check.due("the WORDS", "cover over", Typist.words(x));
    }
}
