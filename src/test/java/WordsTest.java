/** Terms: WORDS. Their limits lie beyond the 512 calls that are promised; this program keeps to them there, too. */
public final class WordsTest {
    private static final String SIXTY = "~".repeat(60);

    public static void main(String[] args) {
        Check check = new Check();
        lengths(check);
        once(check);
        atMostThousand(check);
        atMostTwelveThousandCharacters(check);
        order(check);
        begins(check);
        check.end();
    }

    private static void lengths(Check check) {
        check.sentence("WORDS are rows of 1 to 60 CHARACTERS");
        NearWords x = new NearWords();
        check.bad("none", x::add);
        check.due("1", 1, Typist.add(x, "!"));
        check.due("60", 2, Typist.add(x, SIXTY));
        check.due("59", 3, Typist.add(x, SIXTY.substring(1)));
        check.due("the WORDS", "! " + SIXTY.substring(1) + " " + SIXTY, Typist.words(x));
        Typist.type(x, SIXTY);
        check.full("61", () -> x.type('~', 0L));
    }

    private static void once(Check check) {
        check.sentence("each at most once");
        NearWords x = Typist.with("over", SIXTY, "!", "over", SIXTY, "!", "over");
        check.due("how many", 3, x.count(1));
        check.due("CHARACTERS", 65, x.count(2));
        check.due("the WORDS", "! over " + SIXTY, Typist.words(x));
        check.due("removed once", 2, Typist.remove(x, "over"));
        check.due("the WORDS then", "! " + SIXTY, Typist.words(x));
    }

    private static void atMostThousand(Check check) {
        check.sentence("at most 1000");
        NearWords x = Typist.withThousandWords();
        check.due("how many", 1000, x.count(1));
        Typist.type(x, "x");
        check.full("WORD 1001", x::add);
        check.due("how many then", 1000, x.count(1));
        check.due("all are before", 1000, Typist.before(x, "x"));
        check.due("near among 1000", 28, Typist.near(x, "w111", 1));
        check.due("like among 1000", 1000, Typist.like(x, "*"));
        check.due("one less", 999, Typist.remove(x, "w500"));
        check.due("one more", 1000, Typist.add(x, "x"));
        Typist.type(x, "y");
        check.full("WORD 1001 again", x::add);
    }

    private static void atMostTwelveThousandCharacters(Check check) {
        check.sentence("of at most 12000 CHARACTERS together");
        NearWords x = Typist.withLongWords(199);
        check.due("11999", 200, Typist.add(x, "y".repeat(59)));
        Typist.type(x, "ab");
        check.full("12001", x::add);
        check.due("11999 still", 11999, x.count(2));
        check.due("12000", 201, Typist.add(x, "a"));
        check.due("CHARACTERS", 12000, x.count(2));
        Typist.type(x, "b");
        check.full("12001 by one more", x::add);
        check.due("12000 still", 12000, x.count(2));
        check.due("the last of all", 200, Typist.before(x, "y".repeat(59)));
        check.due("like among them", 200, Typist.like(x, "*?" + "?".repeat(58)));
        check.due("one less", 200, Typist.remove(x, "a"));
        check.due("another one", 201, Typist.add(x, "b"));
        sixtyMore(check);
    }

    private static void sixtyMore(Check check) {
        NearWords x = Typist.withLongWords(200);
        check.due("200 of 60", 12000, x.count(2));
        Typist.type(x, Typist.longWord(200));
        check.full("60 too many", x::add);
        check.due("one less", 199, Typist.remove(x, Typist.longWord(7)));
        check.due("one more", 200, Typist.add(x, Typist.longWord(200)));
        check.due("where it stands", 199, Typist.before(x, Typist.longWord(200)));
    }

    private static void order(Check check) {
        check.sentence("in order CHARACTER by CHARACTER by number");
        NearWords x = Typist.with("b", "~", "B", "!", "az", "bA", "_", "0", "ba", "9~", "Z", "10", "a~");
        check.due("the order", "! 0 10 9~ B Z _ az a~ b bA ba ~", Typist.words(x));
        String same = "m".repeat(59);
        NearWords late = Typist.with(same + "b", same + "~", same + "!", same + "a");
        String due = same + "! " + same + "a " + same + "b " + same + "~";
        check.due("only CHARACTER 60 is another one", due, Typist.words(late));
    }

    private static void begins(Check check) {
        check.sentence("one that begins another one before it");
        NearWords x = Typist.with("abc", "a!", "ab", "a", "ab!", "aa", "abcd");
        check.due("the order", "a a! aa ab ab! abc abcd", Typist.words(x));
        NearWords longer = Typist.with(SIXTY, SIXTY.substring(1), SIXTY.substring(2), "~");
        String due = "~ " + SIXTY.substring(2) + " " + SIXTY.substring(1) + " " + SIXTY;
        check.due("the order of long ones", due, Typist.words(longer));
    }
}
