/** Promise 3: add. Its FULL lies beyond the 512 calls that are promised; this program keeps to it there, too. */
public final class AddTest {
    public static void main(String[] args) {
        Check check = new Check();
        ordinary(check);
        order(check);
        tooManyWords(check);
        tooManyCharacters(check);
        check.end();
    }

    private static void ordinary(Check check) {
        NearWords x = new NearWords();
        check.bad("an empty INPUT", x::add);
        check.due("a first word", 1, Typist.add(x, "over"));
        check.due("INPUT is taken", 0, x.count(0));
        check.bad("INPUT is empty then", x::add);
        check.due("a second word", 2, Typist.add(x, "cover"));
        check.due("a word that was there", 2, Typist.add(x, "over"));
        check.due("INPUT is taken for it, too", 0, x.count(0));
        check.due("a word of one CHARACTER", 3, Typist.add(x, "!"));
        check.due("a word of sixty", 4, Typist.add(x, "~".repeat(60)));
        check.due("a word with * and ?", 5, Typist.add(x, "*?"));
        check.due("CHARACTERS", 4 + 5 + 1 + 60 + 2, x.count(2));
        Typist.like(x, "*");
        check.due("all words", "!/0 *?/0 cover/0 over/0 " + "~".repeat(60) + "/0", Typist.result(x));
    }

    private static void order(Check check) {
        NearWords x = Typist.with("b", "ab", "a", "B", "aa", "abc", "~", "!", "a!", "b", "aa");
        check.due("how many", 9, x.count(1));
        Typist.like(x, "*");
        check.due("the order", "!/0 B/0 a/0 a!/0 aa/0 ab/0 abc/0 b/0 ~/0", Typist.result(x));
    }

    private static void tooManyWords(Check check) {
        NearWords x = new NearWords();
        for (int i = 0; i < 1000; i++) {
            check.due("word " + i, i + 1, Typist.add(x, "w" + (i * 7 % 1000)));
        }
        Typist.type(x, "x");
        check.full("word 1001", x::add);
        check.due("INPUT is taken all the same", 0, x.count(0));
        check.due("WORDS are as they were", 1000, x.count(1));
        check.due("a word that was there", 1000, Typist.add(x, "w500"));
        check.due("one less", 999, Typist.remove(x, "w500"));
        check.due("one more", 1000, Typist.add(x, "x"));
        check.due("all are before", 1000, Typist.before(x, "y"));
        check.due("near among 1000", 28, Typist.near(x, "w111", 1));
        check.due("like among 1000", 1000, Typist.like(x, "*"));
    }

    private static void tooManyCharacters(Check check) {
        NearWords x = new NearWords();
        for (int i = 0; i < 199; i++) {
            Typist.add(x, longWord(i, 60));
        }
        check.due("CHARACTERS before the last word", 199 * 60, x.count(2));
        check.due("all but one", 200, Typist.add(x, longWord(199, 59)));
        Typist.type(x, "ab");
        check.full("two more than there are", x::add);
        check.due("INPUT is taken all the same", 0, x.count(0));
        check.due("the last CHARACTER", 201, Typist.add(x, "a"));
        check.due("CHARACTERS are full", 12000, x.count(2));
        Typist.type(x, "b");
        check.full("one more", x::add);
        check.due("a word that was there", 201, Typist.add(x, "a"));
        check.due("CHARACTERS are as they were", 12000, x.count(2));
        check.due("one less", 200, Typist.remove(x, "a"));
        check.due("another one", 201, Typist.add(x, "b"));
    }

    private static String longWord(int i, int length) {
        return String.format("%03d", i) + "x".repeat(length - 3);
    }
}
