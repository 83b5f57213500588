/** Promise 9: distance. */
public final class DistanceTest {
    public static void main(String[] args) {
        Check check = new Check();
        NearWords x = Typist.with("over", "cover", "clover", "gloves");
        check.bad("no RESULT yet", () -> x.distance(0));
        Typist.near(x, "cover", 3);
        check.due("RESULT", "clover/1 cover/0 gloves/3 over/1", Typist.result(x));
        check.due("1", 1, x.distance(0));
        check.due("0", 0, x.distance(1));
        check.due("3", 3, x.distance(2));
        check.bad("i 4", () -> x.distance(4));
        check.bad("i -1", () -> x.distance(-1));
        check.bad("the least i", () -> x.distance(Integer.MIN_VALUE));
        check.bad("the greatest i", () -> x.distance(Integer.MAX_VALUE));
        Typist.remove(x, "clover");
        check.due("it stays when its word goes", 1, x.distance(0));
        Typist.like(x, "gloves");
        check.due("after like", 0, x.distance(0));
        check.bad("a RESULT that was longer", () -> x.distance(1));
        Typist.near(x, "nothing", 0);
        check.bad("an empty RESULT", () -> x.distance(0));
        check.end();
    }
}
