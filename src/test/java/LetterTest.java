/** Promise 8: letter. */
public final class LetterTest {
    private static final String SIXTY = "q".repeat(59) + "r";

    public static void main(String[] args) {
        Check check = new Check();
        fromZero(check);
        behindEnd(check);
        noSuchWord(check);
        belowZero(check);
        changesNothing(check);
        check.end();
    }

    private static NearWords used() {
        NearWords x = Typist.with("over", "cover", "!", "~", SIXTY);
        Typist.like(x, "*");
        return x;
    }

    private static void fromZero(Check check) {
        check.sentence("CHARACTER k of WORD i in RESULT, both from 0");
        NearWords x = used();
        String[] words = {"!", "cover", "over", SIXTY, "~"};
        for (int i = 0; i < words.length; i++) {
            for (int k = 0; k < words[i].length(); k++) {
                check.due("letter(" + i + ", " + k + ")", words[i].charAt(k), x.letter(i, k));
            }
        }
    }

    private static void behindEnd(Check check) {
        check.sentence("0 behind its end");
        NearWords x = used();
        int[] lengths = {1, 5, 4, 60, 1};
        for (int i = 0; i < lengths.length; i++) {
            for (int k : new int[] {lengths[i], lengths[i] + 1, 60, 61, 127, 128, 256, 1 << 16, Integer.MAX_VALUE}) {
                check.due("letter(" + i + ", " + k + ")", 0, x.letter(i, k));
            }
        }
        Typist.like(x, "!");
        check.due("where a longer WORD was", 0, x.letter(0, 1));
        Typist.like(x, "cover");
        Typist.like(x, "over");
        check.due("where one CHARACTER more was", 0, x.letter(0, 4));
    }

    private static void noSuchWord(Check check) {
        check.sentence("No such WORD [..]: bad");
        NearWords x = Typist.with("over", "cover");
        check.bad("no RESULT yet", () -> x.letter(0, 0));
        Typist.like(x, "*");
        for (int i : new int[] {-1, 2, 49, 50, 51, 1000, 1 << 16, Integer.MIN_VALUE, Integer.MAX_VALUE}) {
            check.bad("letter(" + i + ", 0)", () -> x.letter(i, 0));
            check.bad("letter(" + i + ", MAX)", () -> x.letter(i, Integer.MAX_VALUE));
        }
        check.due("the last one is there", 'o', x.letter(1, 0));
        Typist.like(x, "c*");
        check.bad("a RESULT that was longer", () -> x.letter(1, 0));
        Typist.like(x, "none");
        check.bad("a RESULT that is empty", () -> x.letter(0, 0));
    }

    private static void belowZero(Check check) {
        check.sentence("k below 0: bad");
        NearWords x = used();
        for (int k : new int[] {-1, -2, -60, -256, Integer.MIN_VALUE, Integer.MIN_VALUE + 1}) {
            check.bad("letter(0, " + k + ")", () -> x.letter(0, k));
            check.bad("letter(4, " + k + ")", () -> x.letter(4, k));
            check.bad("no such WORD, and " + k, () -> x.letter(5, k));
        }
        check.due("k 0", '!', x.letter(0, 0));
    }

    private static void changesNothing(Check check) {
        check.sentence("CHARACTER k of WORD i in RESULT: all stays as it is");
        NearWords x = Typist.with("over", "cover");
        Typist.near(x, "over", 1);
        Typist.type(x, "input");
        x.letter(0, 0);
        x.letter(1, 60);
        check.due("all", "5 2 9 2 5 cover/1 over/0", Typist.seen(x));
    }
}
