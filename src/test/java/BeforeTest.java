/** Promise 7: before. */
public final class BeforeTest {
    private static final String[] WORDS = {"b", "ab", "abc", "B", "zebra", "~"};

    public static void main(String[] args) {
        Check check = new Check();
        taken(check);
        empty(check);
        ends(check);
        wordsThemselves(check);
        beginnings(check);
        many(check);
        full(check);
        check.end();
    }

    private static void taken(Check check) {
        check.sentence("Takes INPUT");
        NearWords x = Typist.with(WORDS);
        Typist.like(x, "z*");
        Typist.before(x, "~".repeat(60));
        check.due("INPUT is taken, all else stays", "0 6 13 1 5 zebra/0", Typist.seen(x));
        check.due("WORDS stay", "B ab abc b zebra ~", Typist.words(x));
    }

    private static void empty(Check check) {
        check.sentence("(an empty row, too)");
        NearWords x = Typist.with(WORDS);
        check.due("nothing stands before an empty row", 0, x.before());
        check.due("and again", 0, x.before());
        x.type(0L, 0L);
        check.due("zeros make an empty row", 0, x.before());
        check.due("of a new object", 0, new NearWords().before());
    }

    private static void ends(Check check) {
        check.sentence("how many WORDS stand before it: none, all");
        NearWords x = Typist.with(WORDS);
        check.due("the first possible row", 0, Typist.before(x, "!"));
        check.due("the last WORD", 5, Typist.before(x, "~"));
        check.due("behind all", 6, Typist.before(x, "~!"));
        check.due("60 CHARACTERS behind all", 6, Typist.before(x, "~".repeat(60)));
        check.due("* is a CHARACTER", 0, Typist.before(x, "*"));
        check.due("? is a CHARACTER", 0, Typist.before(x, "?"));
        check.due("no WORDS at all", 0, Typist.before(new NearWords(), "~".repeat(60)));
    }

    private static void wordsThemselves(Check check) {
        check.sentence("how many WORDS stand before it: a WORD not before itself");
        NearWords x = Typist.with(WORDS);
        String[] order = {"B", "ab", "abc", "b", "zebra", "~"};
        for (int i = 0; i < order.length; i++) {
            check.due(order[i], i, Typist.before(x, order[i]));
            check.due("just behind " + order[i], i + 1, Typist.before(x, order[i] + "!"));
        }
    }

    private static void beginnings(Check check) {
        check.sentence("how many WORDS stand before it: one that begins another one before it");
        NearWords x = Typist.with(WORDS);
        check.due("a row that begins WORDS", 1, Typist.before(x, "a"));
        check.due("a row that a WORD begins", 2, Typist.before(x, "abb"));
        check.due("a longer row", 3, Typist.before(x, "abca"));
        String sixty = "q".repeat(60);
        NearWords longer = Typist.with(sixty, "q".repeat(59));
        check.due("58 alike", 0, Typist.before(longer, "q".repeat(58)));
        check.due("59 alike", 0, Typist.before(longer, "q".repeat(59)));
        check.due("60 alike", 1, Typist.before(longer, sixty));
        check.due("the last one greater", 2, Typist.before(longer, "q".repeat(59) + "r"));
        check.due("the last one less", 1, Typist.before(longer, "q".repeat(59) + "p"));
    }

    private static void many(Check check) {
        check.sentence("how many WORDS stand before it: with any number of WORDS");
        NearWords x = new NearWords();
        for (int i = 0; i < 90; i++) {
            Typist.add(x, Integer.toString(100 + i * 37 % 90));
            int less = 0;
            for (int j = 0; j <= i; j++) {
                less += j * 37 % 90 < i ? 1 : 0;
            }
            check.due("before " + (100 + i) + " with " + (i + 1), less, Typist.before(x, Integer.toString(100 + i)));
        }
    }

    private static void full(Check check) {
        check.sentence("how many WORDS stand before it: with 1000 WORDS");
        NearWords x = Typist.withThousandWords();
        check.due("all", 1000, Typist.before(x, "x"));
        check.due("none", 0, Typist.before(x, "w"));
        check.due("all but one", 999, Typist.before(x, "w999"));
        check.due("the first one", 1, Typist.before(x, "w0!"));
    }
}
