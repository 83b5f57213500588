/** Promise 10: count. */
public final class CountTest {
    public static void main(String[] args) {
        Check check = new Check();
        NearWords x = new NearWords();
        counts(check, "a new object", x, 0, 0, 0, 0, 0);
        Typist.type(x, "over");
        counts(check, "typed", x, 4, 0, 0, 0, 0);
        x.add();
        counts(check, "added", x, 0, 1, 4, 0, 4);
        Typist.add(x, "clover");
        counts(check, "a longer one", x, 0, 2, 10, 0, 6);
        Typist.add(x, "a");
        counts(check, "a shorter one", x, 0, 3, 11, 0, 6);
        Typist.add(x, "clover");
        counts(check, "one that was there", x, 0, 3, 11, 0, 6);
        Typist.like(x, "*o*");
        counts(check, "like", x, 0, 3, 11, 2, 6);
        Typist.near(x, "over", 0);
        counts(check, "near", x, 0, 3, 11, 1, 6);
        Typist.remove(x, "clover");
        counts(check, "removed", x, 0, 2, 5, 1, 4);
        Typist.add(x, "z".repeat(60));
        counts(check, "the longest possible", x, 0, 3, 65, 1, 60);
        Typist.type(x, "y".repeat(60));
        counts(check, "typed sixty", x, 60, 3, 65, 1, 60);
        for (int what : new int[] {-1, 5, 6, Integer.MIN_VALUE, Integer.MAX_VALUE}) {
            check.due("count(" + what + ")", -1, x.count(what));
        }
        check.end();
    }

    private static void counts(Check check, String when, NearWords x, int... wants) {
        for (int what = 0; what < wants.length; what++) {
            check.due("count(" + what + "), " + when, wants[what], x.count(what));
        }
    }
}
