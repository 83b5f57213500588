/** Promise 10: count. */
public final class CountTest {
    public static void main(String[] args) {
        Check check = new Check();
        input(check);
        words(check);
        characters(check);
        result(check);
        longest(check);
        others(check);
        changesNothing(check);
        check.end();
    }

    private static void input(Check check) {
        check.sentence("INPUT's length (0)");
        NearWords x = new NearWords();
        check.due("none", 0, x.count(0));
        Typist.type(x, "over");
        check.due("4", 4, x.count(0));
        Typist.type(x, "y".repeat(56));
        check.due("60", 60, x.count(0));
        x.like();
        check.due("taken", 0, x.count(0));
    }

    private static void words(Check check) {
        check.sentence("WORDS (1)");
        NearWords x = new NearWords();
        check.due("none", 0, x.count(1));
        Typist.add(x, "over");
        check.due("one", 1, x.count(1));
        Typist.add(x, "over");
        check.due("the same", 1, x.count(1));
        Typist.add(x, "cover");
        check.due("two", 2, x.count(1));
        Typist.remove(x, "over");
        Typist.remove(x, "cover");
        check.due("none again", 0, x.count(1));
        check.due("1000", 1000, Typist.withThousandWords().count(1));
    }

    private static void characters(Check check) {
        check.sentence("their CHARACTERS (2)");
        NearWords x = new NearWords();
        check.due("none", 0, x.count(2));
        Typist.type(x, "over");
        check.due("typed alone", 0, x.count(2));
        x.add();
        check.due("4", 4, x.count(2));
        Typist.add(x, "over");
        check.due("the same", 4, x.count(2));
        Typist.add(x, "z".repeat(60));
        check.due("64", 64, x.count(2));
        Typist.remove(x, "over");
        check.due("60", 60, x.count(2));
        Typist.remove(x, "z".repeat(60));
        check.due("none again", 0, x.count(2));
        check.due("12000", 12000, Typist.withLongWords(200).count(2));
    }

    private static void result(Check check) {
        check.sentence("how many are in RESULT (3)");
        NearWords x = Typist.with("over", "cover", "clover");
        check.due("none", 0, x.count(3));
        Typist.like(x, "*l*");
        check.due("like", 1, x.count(3));
        Typist.near(x, "over", 3);
        check.due("near", 3, x.count(3));
        Typist.remove(x, "over");
        check.due("one WORD less", 3, x.count(3));
        x.like();
        check.due("an empty PATTERN", 0, x.count(3));
        NearWords many = Typist.withThousandWords();
        Typist.like(many, "*");
        check.due("of 1000", 50, many.count(3));
        Typist.near(many, "w111", 3);
        check.due("of many that are near", 50, many.count(3));
    }

    private static void longest(Check check) {
        check.sentence("the length of the longest WORD, 0 without (4)");
        NearWords x = new NearWords();
        check.due("without", 0, x.count(4));
        Typist.type(x, "over");
        check.due("typed alone", 0, x.count(4));
        x.add();
        check.due("4", 4, x.count(4));
        Typist.add(x, "a");
        check.due("a shorter one before", 4, x.count(4));
        Typist.add(x, "z");
        check.due("a shorter one behind", 4, x.count(4));
        Typist.add(x, "m".repeat(60));
        check.due("60", 60, x.count(4));
        Typist.add(x, "n".repeat(60));
        Typist.remove(x, "m".repeat(60));
        check.due("another one of 60", 60, x.count(4));
        Typist.remove(x, "n".repeat(60));
        check.due("4 again", 4, x.count(4));
        Typist.remove(x, "over");
        check.due("1", 1, x.count(4));
        Typist.remove(x, "a");
        Typist.remove(x, "z");
        check.due("without again", 0, x.count(4));
    }

    private static void others(Check check) {
        check.sentence("else -1");
        NearWords x = Typist.with("over");
        for (int what : new int[] {-1, 5, 6, -2, -5, 256, 1 << 16, Integer.MIN_VALUE, Integer.MAX_VALUE}) {
            check.due("count(" + what + ")", -1, x.count(what));
            check.due("count(" + what + ") of a new object", -1, new NearWords().count(what));
        }
    }

    private static void changesNothing(Check check) {
        check.sentence("INPUT's length (0), WORDS (1): all stays as it is");
        NearWords x = Typist.with("over", "cover");
        Typist.near(x, "over", 1);
        Typist.type(x, "input");
        for (int what = -1; what <= 5; what++) {
            x.count(what);
        }
        check.due("all", "5 2 9 2 5 cover/1 over/0", Typist.seen(x));
    }
}
