/** Promise 3: add. Its FULL lies beyond the 512 calls that are promised; this program keeps to it there, too. */
public final class AddTest {
    public static void main(String[] args) {
        Check check = new Check();
        empty(check);
        isWord(check);
        wasThere(check);
        tooManyWords(check);
        tooManyCharacters(check);
        howMany(check);
        check.end();
    }

    private static void empty(Check check) {
        check.sentence("Takes INPUT (not empty)");
        NearWords x = new NearWords();
        check.bad("an empty INPUT", x::add);
        check.due("no WORDS then", 0, x.count(1));
        check.due("a first WORD", 1, Typist.add(x, "over"));
        check.due("INPUT is taken", 0, x.count(0));
        check.bad("INPUT is empty then", x::add);
        check.due("one WORD still", 1, x.count(1));
        x.type(0L, 0L);
        check.bad("zeros make no INPUT", x::add);
    }

    private static void isWord(Check check) {
        check.sentence("it's a WORD");
        NearWords x = Typist.with("over", "cover", "!", "~".repeat(60), "*?");
        check.due("CHARACTERS", 4 + 5 + 1 + 60 + 2, x.count(2));
        check.due("all WORDS", "! *? cover over " + "~".repeat(60), Typist.words(x));
    }

    private static void wasThere(Check check) {
        check.sentence("If it was there: nothing.");
        NearWords x = Typist.with("over", "cover", "a");
        Typist.near(x, "over", 1);
        String due = Typist.seen(x);
        for (String word : new String[] {"a", "cover", "over"}) {
            check.due(word, 3, Typist.add(x, word));
            check.due("after " + word, due, Typist.seen(x));
        }
        check.due("all WORDS", "a cover over", Typist.words(x));
        check.sentence("If it was there: nothing: not FULL either");
        NearWords words = Typist.withThousandWords();
        check.due("among 1000", 1000, Typist.add(words, "w500"));
        check.due("the last of 1000", 1000, Typist.add(words, "w999"));
        NearWords characters = Typist.withLongWords(200);
        check.due("among 12000 CHARACTERS", 200, Typist.add(characters, Typist.longWord(199)));
        check.due("CHARACTERS", 12000, characters.count(2));
    }

    private static void tooManyWords(Check check) {
        check.sentence("Too many [..]: FULL");
        NearWords x = Typist.withThousandWords();
        for (String word : new String[] {"a", "w1!", "x", "~".repeat(60)}) {
            Typist.type(x, word);
            check.full(word, x::add);
            check.due("INPUT is taken all the same", 0, x.count(0));
            check.due("WORDS are as they were", 1000, x.count(1));
        }
        Typist.remove(x, "w0");
        check.due("one for one", 1000, Typist.add(x, "a"));
    }

    private static void tooManyCharacters(Check check) {
        check.sentence("or too many CHARACTERS: FULL");
        NearWords x = Typist.withLongWords(199);
        Typist.add(x, "y".repeat(58));
        for (int more = 3; more <= 60; more++) {
            Typist.type(x, "z".repeat(more));
            check.full(more + " where 2 find room", x::add);
            check.due("INPUT is taken all the same", 0, x.count(0));
            check.due("CHARACTERS are as they were", 11998, x.count(2));
        }
        check.due("2 find room", 201, Typist.add(x, "zz"));
        Typist.type(x, "z");
        check.full("1 where none finds room", x::add);
        check.due("CHARACTERS are full", 12000, x.count(2));
    }

    private static void howMany(Check check) {
        check.sentence("Answers how many WORDS there are.");
        NearWords x = new NearWords();
        for (int i = 0; i < 1000; i++) {
            check.due("WORD " + i, i + 1, Typist.add(x, "w" + i * 7 % 1000));
        }
        check.due("one that was there", 1000, Typist.add(x, "w0"));
    }
}
