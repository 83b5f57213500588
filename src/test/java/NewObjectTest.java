/** Promise 1: a new object has no WORDS, an empty INPUT and an empty RESULT, and shares nothing with another one. */
public final class NewObjectTest {
    public static void main(String[] args) {
        Check check = new Check();
        noWords(check);
        found(check);
        refused(check);
        apart(check);
        check.end();
    }

    private static void noWords(Check check) {
        check.sentence("No WORDS.");
        NearWords x = new NearWords();
        for (int what = 0; what <= 4; what++) {
            check.due("count(" + what + ")", 0, x.count(what));
        }
    }

    private static void found(Check check) {
        check.sentence("No WORDS: none is found");
        NearWords x = new NearWords();
        check.due("like() of an empty INPUT", 0, x.like());
        check.due("before() of an empty INPUT", 0, x.before());
        check.due("before()", 0, Typist.before(x, "~".repeat(60)));
        check.due("like()", 0, Typist.like(x, "*"));
        for (int n = 0; n <= 3; n++) {
            check.due("near(" + n + ")", 0, Typist.near(x, "word", n));
        }
        check.due("remove()", 0, Typist.remove(x, "word"));
        check.due("RESULT", 0, x.count(3));
    }

    private static void refused(Check check) {
        check.sentence("No WORDS: nothing to take and to look at");
        check.bad("letter(0, 0)", () -> new NearWords().letter(0, 0));
        check.bad("distance(0)", () -> new NearWords().distance(0));
        check.bad("add()", () -> new NearWords().add());
        check.bad("remove()", () -> new NearWords().remove());
        check.bad("near(0)", () -> new NearWords().near(0));
    }

    private static void apart(Check check) {
        check.sentence("No WORDS: whatever another object has");
        NearWords x = Typist.with("word");
        Typist.like(x, "*");
        Typist.type(x, "more");
        NearWords later = new NearWords();
        for (int what = 0; what <= 4; what++) {
            check.due("count(" + what + ") of a later object", 0, later.count(what));
        }
        Typist.add(later, "others");
        check.due("the first object", "4 1 4 1 4 word/0", Typist.seen(x));
    }
}
