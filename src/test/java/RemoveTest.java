/** Promise 4: remove. */
public final class RemoveTest {
    public static void main(String[] args) {
        Check check = new Check();
        empty(check);
        isNoWord(check);
        wasNotThere(check);
        howMany(check);
        fromFull(check);
        check.end();
    }

    private static void empty(Check check) {
        check.sentence("Takes INPUT (not empty)");
        NearWords x = Typist.with("a", "ab");
        check.bad("an empty INPUT", x::remove);
        check.due("WORDS stay", 2, x.count(1));
        Typist.remove(x, "ab");
        check.due("INPUT is taken", 0, x.count(0));
        check.bad("INPUT is empty then", x::remove);
        check.due("the other WORD stays", 1, x.count(1));
        x.type(0L, 0L);
        check.bad("zeros make no INPUT", x::remove);
        check.bad("of a new object", () -> new NearWords().remove());
    }

    private static void isNoWord(Check check) {
        check.sentence("it's no WORD");
        NearWords x = Typist.with("a", "ab", "abc", "b", "zebra");
        Typist.remove(x, "ab");
        check.due("one in the middle", "a abc b zebra", Typist.words(x));
        check.due("CHARACTERS", 10, x.count(2));
        Typist.remove(x, "zebra");
        check.due("the last one", "a abc b", Typist.words(x));
        check.due("the longest is another one then", 3, x.count(4));
        Typist.remove(x, "a");
        check.due("the first one", "abc b", Typist.words(x));
        Typist.add(x, "ab");
        check.due("back again", "ab abc b", Typist.words(x));
        for (String word : new String[] {"b", "ab", "abc"}) {
            Typist.remove(x, word);
        }
        check.due("none is left", "", Typist.words(x));
        check.due("no CHARACTERS", 0, x.count(2));
        check.due("no longest", 0, x.count(4));
    }

    private static void wasNotThere(Check check) {
        check.sentence("If it wasn't there: nothing.");
        NearWords x = Typist.with("ab", "abc", "b", "zebra");
        Typist.near(x, "abc", 1);
        String due = Typist.seen(x);
        for (String row : new String[] {"a", "abcd", "ze", "*", "?", "!", "~".repeat(60), "B"}) {
            check.due(row, 4, Typist.remove(x, row));
            check.due("after " + row, due, Typist.seen(x));
        }
        check.due("the WORDS", "ab abc b zebra", Typist.words(x));
        check.due("of a new object", 0, Typist.remove(new NearWords(), "abc"));
        Typist.remove(x, "ab");
        check.due("the same again", 3, Typist.remove(x, "ab"));
    }

    private static void howMany(Check check) {
        check.sentence("Answers how many WORDS there are.");
        NearWords x = Typist.with("c", "a", "d", "b");
        check.due("4 - 1", 3, Typist.remove(x, "b"));
        check.due("3 - 0", 3, Typist.remove(x, "b"));
        check.due("3 - 1", 2, Typist.remove(x, "a"));
        check.due("2 - 1", 1, Typist.remove(x, "d"));
        check.due("1 - 1", 0, Typist.remove(x, "c"));
        check.due("0 - 0", 0, Typist.remove(x, "c"));
    }

    private static void fromFull(Check check) {
        check.sentence("Takes INPUT [..]: it's no WORD: from 1000 WORDS or 12000 CHARACTERS down to none");
        NearWords words = Typist.withThousandWords();
        for (int i = 999; i >= 0; i--) {
            check.due("w" + i, i, Typist.remove(words, "w" + i));
        }
        check.due("none is left", "0 0 0 0 0 ", Typist.seen(words));
        NearWords characters = Typist.withLongWords(200);
        for (int i = 0; i < 200; i++) {
            Typist.remove(characters, Typist.longWord(i));
            check.due("CHARACTERS without " + i, 12000 - 60 * (i + 1), characters.count(2));
        }
    }
}
