/** Promise 9: distance. */
public final class DistanceTest {
    public static void main(String[] args) {
        Check check = new Check();
        ofWord(check);
        ofFifty(check);
        afterLike(check);
        noSuch(check);
        stays(check);
        check.end();
    }

    private static NearWords used() {
        NearWords x = Typist.with("over", "cover", "clover", "gloves");
        Typist.near(x, "cover", 3);
        return x;
    }

    private static void ofWord(Check check) {
        check.sentence("The DISTANCE of WORD i in RESULT.");
        NearWords x = used();
        check.due("RESULT", "clover/1 cover/0 gloves/3 over/1", Typist.result(x));
        check.due("0", 1, x.distance(0));
        check.due("1", 0, x.distance(1));
        check.due("2", 3, x.distance(2));
        check.due("3", 1, x.distance(3));
        Typist.near(x, "clovers", 3);
        check.due("another one", "clover/1 cover/2 gloves/2 over/3", Typist.result(x));
    }

    private static void ofFifty(Check check) {
        check.sentence("The DISTANCE of WORD i in RESULT: the last of 50");
        NearWords x = new NearWords();
        for (int i = 0; i < 51; i++) {
            Typist.add(x, "word" + (char) ('!' + i));
        }
        Typist.near(x, "word~", 1);
        check.due("49", 1, x.distance(49));
        check.bad("50", () -> x.distance(50));
    }

    private static void afterLike(Check check) {
        check.sentence("The DISTANCE of WORD i in RESULT: 0 after like");
        NearWords x = used();
        Typist.like(x, "*");
        for (int i = 0; i < 4; i++) {
            check.due(Integer.toString(i), 0, x.distance(i));
        }
    }

    private static void noSuch(Check check) {
        check.sentence("No such: bad.");
        NearWords fresh = Typist.with("over");
        check.bad("no RESULT yet", () -> fresh.distance(0));
        NearWords x = used();
        for (int i : new int[] {-1, 4, 49, 50, 51, 1 << 16, Integer.MIN_VALUE, Integer.MAX_VALUE}) {
            check.bad("distance(" + i + ")", () -> x.distance(i));
        }
        Typist.like(x, "gloves");
        check.bad("a RESULT that was longer", () -> x.distance(1));
        Typist.near(x, "nothing", 0);
        check.bad("a RESULT that is empty", () -> x.distance(0));
    }

    private static void stays(Check check) {
        check.sentence("The DISTANCE of WORD i in RESULT: when its WORD is gone, too");
        NearWords x = used();
        Typist.remove(x, "clover");
        Typist.remove(x, "gloves");
        Typist.type(x, "input");
        check.due("0", 1, x.distance(0));
        check.due("2", 3, x.distance(2));
        check.due("all else is as it was", "5 2 9 4 5 clover/1 cover/0 gloves/3 over/1", Typist.seen(x));
    }
}
