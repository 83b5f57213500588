/** Terms: RESULT. */
public final class ResultTest {
    public static void main(String[] args) {
        Check check = new Check();
        emptyAtFirst(check);
        atMostFifty(check);
        distances(check);
        staysWhenWordsGo(check);
        staysWhenWordsCome(check);
        anotherOne(check);
        check.end();
    }

    private static void emptyAtFirst(Check check) {
        check.sentence("RESULT is [..] empty at first");
        NearWords x = Typist.with("over");
        check.due("how many", 0, x.count(3));
        check.bad("letter", () -> x.letter(0, 0));
        check.bad("distance", () -> x.distance(0));
    }

    private static void atMostFifty(Check check) {
        check.sentence("RESULT is a row of at most 50 WORDS");
        NearWords x = new NearWords();
        for (int i = 1; i <= 60; i++) {
            Typist.add(x, "word" + (char) ('!' + i));
            Typist.like(x, "*");
            check.due("like of " + i, Math.min(i, 50), x.count(3));
            Typist.near(x, "word!", 1);
            check.due("near of " + i, Math.min(i, 50), x.count(3));
        }
        check.due("the last one", '!' + 50, x.letter(49, 4));
        check.bad("letter of one more", () -> x.letter(50, 0));
        check.bad("distance of one more", () -> x.distance(50));
    }

    private static void distances(Check check) {
        check.sentence("each with a DISTANCE");
        NearWords x = Typist.with("toast", "toasts", "toads", "coats");
        Typist.near(x, "toast", 3);
        check.due("after near", "coats/2 toads/2 toast/0 toasts/1", Typist.result(x));
        Typist.like(x, "*");
        check.due("after like", "coats/0 toads/0 toast/0 toasts/0", Typist.result(x));
    }

    private static void staysWhenWordsGo(Check check) {
        check.sentence("it stays as it is when WORDS come and go: they go");
        NearWords x = Typist.with("over", "cover", "q".repeat(60));
        Typist.near(x, "over", 1);
        for (String word : new String[] {"cover", "q".repeat(60), "over"}) {
            Typist.remove(x, word);
            check.due("without " + word, "cover/1 over/0", Typist.result(x));
        }
        check.due("no WORDS are left", 0, x.count(1));
        check.due("how many in RESULT", 2, x.count(3));
    }

    private static void staysWhenWordsCome(Check check) {
        check.sentence("it stays as it is when WORDS come and go: they come");
        NearWords x = Typist.with("over", "cover", "q".repeat(60));
        Typist.like(x, "*");
        String due = Typist.result(x);
        check.due("RESULT", "cover/0 over/0 " + "q".repeat(60) + "/0", due);
        for (String word : new String[] {"!", "covers", "overt", "over", "~".repeat(60)}) {
            Typist.add(x, word);
            check.due("with " + word, due, Typist.result(x));
        }
        NearWords none = new NearWords();
        Typist.like(none, "*");
        Typist.add(none, "over");
        check.due("an empty one", 0, none.count(3));
    }

    private static void anotherOne(Check check) {
        check.sentence("RESULT are [..]: nothing is left of the one before");
        NearWords x = Typist.with("q".repeat(60), "p".repeat(60), "r");
        Typist.like(x, "*");
        Typist.like(x, "r");
        check.due("one short WORD", "r/0", Typist.result(x));
        check.bad("the second one is gone", () -> x.letter(1, 0));
        check.due("behind its end", 0, x.letter(0, 1));
        Typist.near(x, "none", 3);
        check.due("none", 0, x.count(3));
        check.bad("all are gone", () -> x.letter(0, 0));
        Typist.like(x, "?");
        check.due("one again", "r/0", Typist.result(x));
        x.like();
        check.due("none by an empty PATTERN", 0, x.count(3));
    }
}
