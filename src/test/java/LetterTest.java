/** Promise 8: letter. */
public final class LetterTest {
    public static void main(String[] args) {
        Check check = new Check();
        NearWords x = Typist.with("over", "cover", "q".repeat(60));
        check.bad("no RESULT yet", () -> x.letter(0, 0));
        Typist.like(x, "*");
        check.due("the first CHARACTER", 'c', x.letter(0, 0));
        check.due("the last CHARACTER", 'r', x.letter(0, 4));
        check.due("behind the end", 0, x.letter(0, 5));
        check.due("far behind the end", 0, x.letter(0, Integer.MAX_VALUE));
        check.due("the last CHARACTER of sixty", 'q', x.letter(2, 59));
        check.due("behind sixty", 0, x.letter(2, 60));
        check.due("of the second word", 'v', x.letter(1, 1));
        check.bad("k -1", () -> x.letter(0, -1));
        check.bad("the least k", () -> x.letter(0, Integer.MIN_VALUE));
        check.bad("i -1", () -> x.letter(-1, 0));
        check.bad("i 3", () -> x.letter(3, 0));
        check.bad("the least i", () -> x.letter(Integer.MIN_VALUE, 0));
        check.bad("the greatest i", () -> x.letter(Integer.MAX_VALUE, 0));
        check.bad("both", () -> x.letter(3, -1));
        stays(check, x);
        check.end();
    }

    private static void stays(Check check, NearWords x) {
        Typist.remove(x, "cover");
        Typist.add(x, "apple");
        Typist.type(x, "input");
        check.due("RESULT stays when WORDS come and go", "cover/0 over/0 " + "q".repeat(60) + "/0", Typist.result(x));
        check.due("INPUT stays", 5, x.count(0));
        x.before();
        Typist.like(x, "ap*");
        check.due("a shorter word where a longer one was", 0, x.letter(0, 5));
        check.bad("a RESULT that was longer", () -> x.letter(1, 0));
    }
}
