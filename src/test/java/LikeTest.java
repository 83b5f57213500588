/** Promise 6: like, and what PATTERN is. */
public final class LikeTest {
    public static void main(String[] args) {
        Check check = new Check();
        ordinary(check);
        stars(check);
        longRows(check);
        beyondResult(check);
        check.end();
    }

    private static void ordinary(Check check) {
        NearWords x = Typist.with("river", "rivers", "rover", "over", "cover", "clover", "lover", "love", "glove");
        matched(check, x, "*over", 5, "clover/0 cover/0 lover/0 over/0 rover/0");
        check.due("INPUT is taken", 0, x.count(0));
        matched(check, x, "?over", 3, "cover/0 lover/0 rover/0");
        matched(check, x, "over", 1, "over/0");
        matched(check, x, "ove", 0, "");
        matched(check, x, "overs", 0, "");
        matched(check, x, "r*", 3, "river/0 rivers/0 rover/0");
        matched(check, x, "*s", 1, "rivers/0");
        matched(check, x, "*o*e", 2, "glove/0 love/0");
        matched(check, x, "?????", 5, "cover/0 glove/0 lover/0 river/0 rover/0");
        matched(check, x, "?????*?", 2, "clover/0 rivers/0");
        matched(check, x, "r?ver*", 3, "river/0 rivers/0 rover/0");
        matched(check, x, "", 0, "");
        matched(check, x, "*", 9, "clover/0 cover/0 glove/0 love/0 lover/0 over/0 river/0 rivers/0 rover/0");
        matched(check, x, "x", 0, "");
        check.due("RESULT is empty then", 0, x.count(3));
    }

    private static void stars(Check check) {
        NearWords x = Typist.with("a", "aa", "ab", "aba", "abab", "b*b", "b?b", "bcb");
        matched(check, x, "**", 8, "a/0 aa/0 ab/0 aba/0 abab/0 b*b/0 b?b/0 bcb/0");
        matched(check, x, "***a***", 5, "a/0 aa/0 ab/0 aba/0 abab/0");
        matched(check, x, "a*a", 2, "aa/0 aba/0");
        matched(check, x, "*ab", 2, "ab/0 abab/0");
        matched(check, x, "*ab*", 3, "ab/0 aba/0 abab/0");
        matched(check, x, "?*", 8, "a/0 aa/0 ab/0 aba/0 abab/0 b*b/0 b?b/0 bcb/0");
        matched(check, x, "*?", 8, "a/0 aa/0 ab/0 aba/0 abab/0 b*b/0 b?b/0 bcb/0");
        matched(check, x, "*?**?*?*", 5, "aba/0 abab/0 b*b/0 b?b/0 bcb/0");
        matched(check, x, "b*b", 3, "b*b/0 b?b/0 bcb/0");
        matched(check, x, "b?b", 3, "b*b/0 b?b/0 bcb/0");
        matched(check, x, "?", 1, "a/0");
        matched(check, x, "A", 0, "");
    }

    private static void longRows(Check check) {
        String sixty = "a".repeat(60);
        NearWords x = Typist.with(sixty, "a".repeat(59) + "b", "!~");
        matched(check, x, sixty, 1, sixty + "/0");
        matched(check, x, "?".repeat(60), 2, sixty + "/0 " + "a".repeat(59) + "b/0");
        matched(check, x, "*".repeat(60), 3, "!~/0 " + sixty + "/0 " + "a".repeat(59) + "b/0");
        matched(check, x, "*a".repeat(30), 1, sixty + "/0");
        matched(check, x, "*a".repeat(29) + "*b", 1, "a".repeat(59) + "b/0");
        matched(check, x, "a*".repeat(30), 2, sixty + "/0 " + "a".repeat(59) + "b/0");
        matched(check, x, "?".repeat(59) + "*", 2, sixty + "/0 " + "a".repeat(59) + "b/0");
        matched(check, x, "!~", 1, "!~/0");
    }

    private static void beyondResult(Check check) {
        NearWords x = new NearWords();
        for (char c = '!'; c <= '~'; c++) {
            Typist.add(x, "w" + c);
        }
        check.due("94 words", 94, Typist.like(x, "w?"));
        check.due("50 of them in RESULT", 50, x.count(3));
        check.due("the first one", '!', x.letter(0, 1));
        check.due("the last one", '!' + 49, x.letter(49, 1));
        check.due("its DISTANCE", 0, x.distance(49));
        check.bad("word 50", () -> x.letter(50, 0));
        Typist.near(x, "wax", 3);
        check.due("near and then like", 94, Typist.like(x, "*"));
        check.due("DISTANCE is 0 again", 0, x.distance(0));
    }

    private static void matched(Check check, NearWords x, String pattern, int want, String result) {
        check.due("like " + pattern, want, Typist.like(x, pattern));
        check.due("RESULT of " + pattern, result, Typist.result(x));
    }
}
