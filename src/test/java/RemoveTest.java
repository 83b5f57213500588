/** Promise 4: remove. */
public final class RemoveTest {
    public static void main(String[] args) {
        Check check = new Check();
        NearWords x = Typist.with("a", "ab", "abc", "b", "zebra");
        check.bad("an empty INPUT", x::remove);
        check.due("a word that was not there", 5, Typist.remove(x, "abcd"));
        check.due("INPUT is taken", 0, x.count(0));
        check.bad("INPUT is empty then", x::remove);
        check.due("one that begins a word", 5, Typist.remove(x, "ze"));
        check.due("a PATTERN is none here", 5, Typist.remove(x, "*"));
        check.due("one in the middle", 4, Typist.remove(x, "ab"));
        check.due("INPUT is taken for it, too", 0, x.count(0));
        check.due("CHARACTERS", 10, x.count(2));
        Typist.like(x, "*");
        check.due("what is left", "a/0 abc/0 b/0 zebra/0", Typist.result(x));
        check.due("the same again", 4, Typist.remove(x, "ab"));
        check.due("the last one", 3, Typist.remove(x, "zebra"));
        check.due("the longest is another one then", 3, x.count(4));
        check.due("the first one", 2, Typist.remove(x, "a"));
        check.due("RESULT stays", "a/0 abc/0 b/0 zebra/0", Typist.result(x));
        check.due("back again", 3, Typist.add(x, "ab"));
        Typist.like(x, "*");
        check.due("all words", "ab/0 abc/0 b/0", Typist.result(x));
        Typist.remove(x, "b");
        Typist.remove(x, "ab");
        check.due("none is left", 0, Typist.remove(x, "abc"));
        check.due("no CHARACTERS", 0, x.count(2));
        check.due("no longest", 0, x.count(4));
        check.due("none to remove", 0, Typist.remove(x, "abc"));
        check.end();
    }
}
