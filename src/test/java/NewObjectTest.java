/** Promise 1: a new object has no WORDS, an empty INPUT and an empty RESULT, and shares nothing with another one. */
public final class NewObjectTest {
    public static void main(String[] args) {
        Check check = new Check();
        NearWords x = new NearWords();
        for (int what = 0; what <= 4; what++) {
            check.due("count(" + what + ") of a new object", 0, x.count(what));
        }
        check.due("before() of a new object", 0, Typist.before(x, "~"));
        check.due("like() of a new object", 0, Typist.like(x, "*"));
        check.due("near() of a new object", 0, Typist.near(x, "word", 3));
        check.due("remove() of a new object", 0, Typist.remove(x, "word"));
        NearWords fresh = new NearWords();
        check.bad("letter(0, 0) of a new object", () -> fresh.letter(0, 0));
        check.bad("distance(0) of a new object", () -> fresh.distance(0));
        check.bad("add() of a new object", fresh::add);
        check.bad("remove() of a new object", fresh::remove);
        check.bad("near(0) of a new object", () -> fresh.near(0));
        check.due("like() of an empty INPUT", 0, fresh.like());
        check.due("before() of an empty INPUT", 0, fresh.before());
        Typist.add(x, "word");
        Typist.type(x, "more");
        check.due("WORDS of the other object", 0, fresh.count(1));
        check.due("INPUT of the other object", 0, fresh.count(0));
        check.end();
    }
}
