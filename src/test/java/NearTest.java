/** Promise 5: near, and what DISTANCE is. */
public final class NearTest {
    private static final String SIXTY = "abcdefghij".repeat(6);

    public static void main(String[] args) {
        Check check = new Check();
        ordinary(check);
        steps(check);
        shortRows(check);
        longRows(check);
        tooMany(check);
        refused(check);
        check.end();
    }

    private static void ordinary(Check check) {
        NearWords x = Typist.with("river", "rivers", "rover", "over", "cover", "clover", "lover", "love", "glove");
        check.due("over, 0", 1, Typist.near(x, "over", 0));
        check.due("RESULT", "over/0", Typist.result(x));
        check.due("INPUT is taken", 0, x.count(0));
        check.due("over, 1", 4, Typist.near(x, "over", 1));
        check.due("RESULT", "cover/1 lover/1 over/0 rover/1", Typist.result(x));
        check.due("over, 2", 7, Typist.near(x, "over", 2));
        check.due("RESULT", "clover/2 cover/1 love/2 lover/1 over/0 river/2 rover/1", Typist.result(x));
        check.due("over, 3", 9, Typist.near(x, "over", 3));
        check.due("RESULT", "clover/2 cover/1 glove/3 love/2 lover/1 over/0 river/2 rivers/3 rover/1", Typist.result(x));
        check.due("none", 0, Typist.near(x, "quartz", 3));
        check.due("no RESULT", "", Typist.result(x));
        check.due("* and ? stand for themselves", 0, Typist.near(x, "?ove*", 0));
    }

    private static void steps(Check check) {
        measured(check, "abcdef", "abcdef", 0);
        measured(check, "abcdef", "abcdefg", 1);
        measured(check, "abcdef", "xabcdef", 1);
        measured(check, "abcdef", "abcxdef", 1);
        measured(check, "abcdef", "bcdef", 1);
        measured(check, "abcdef", "abcde", 1);
        measured(check, "abcdef", "abcxef", 1);
        measured(check, "abcdef", "bacdef", 1);
        measured(check, "abcdef", "abcdfe", 1);
        measured(check, "abcdef", "badcef", 2);
        measured(check, "abcdef", "badcfe", 3);
        measured(check, "abcdef", "cbadef", 2);
        measured(check, "abcdef", "cdabef", -1);
        measured(check, "abcdef", "bcadef", 2);
        measured(check, "abcdef", "uvwdef", 3);
        measured(check, "abcdef", "uvwxef", -1);
        measured(check, "abcdef", "abcdefghi", 3);
        measured(check, "abcdef", "abcdefghij", -1);
        measured(check, "abcdef", "xyzabcdef", 3);
        // What has changed places is not touched again: not two steps by way of zzac.
        measured(check, "zzca", "zzabc", 3);
        measured(check, "zzzzca", "zzzzabc", 3);
        measured(check, "aaaaaa", "aaa", -1);
        measured(check, "aaaaaa", "aaaa", 2);
        measured(check, "aaaaaaa", "aaaa", 3);
    }

    /** What is farther than 3, or not below both lengths, has -1 here. */
    private static void measured(Check check, String one, String other, int distance) {
        for (int n = 0; n <= 3; n++) {
            boolean found = distance >= 0 && distance <= n;
            check.due(one + " near " + other + ", " + n, found ? other + "/" + distance : "", found(other, one, n));
            check.due(other + " near " + one + ", " + n, found ? one + "/" + distance : "", found(one, other, n));
        }
    }

    private static String found(String word, String aim, int n) {
        NearWords x = Typist.with(word);
        Typist.near(x, aim, n);
        return Typist.result(x);
    }

    private static void shortRows(Check check) {
        measured(check, "a", "a", 0);
        measured(check, "a", "b", -1);
        measured(check, "a", "ab", -1);
        measured(check, "ab", "ba", 1);
        measured(check, "ab", "ac", 1);
        measured(check, "ab", "cd", -1);
        measured(check, "ab", "abc", 1);
        measured(check, "ab", "abcd", -1);
        measured(check, "abc", "axy", 2);
        measured(check, "abc", "xyz", -1);
        measured(check, "abc", "abcde", 2);
        measured(check, "abc", "abcdef", -1);
        measured(check, "abcd", "abcdefg", 3);
    }

    private static void longRows(Check check) {
        measured(check, SIXTY, SIXTY, 0);
        measured(check, SIXTY, SIXTY.substring(1), 1);
        measured(check, SIXTY, SIXTY.substring(0, 57), 3);
        measured(check, SIXTY, SIXTY.substring(3), 3);
        measured(check, SIXTY, SIXTY.substring(4), -1);
        measured(check, SIXTY, "ba" + SIXTY.substring(2, 58) + "ji", 2);
        measured(check, SIXTY, "xyz" + SIXTY.substring(3), 3);
        measured(check, SIXTY, SIXTY.substring(0, 57) + "xyz", 3);
        measured(check, SIXTY, SIXTY.substring(3) + "xyz", -1);
        measured(check, SIXTY, "x" + SIXTY.substring(0, 59), 2);
        measured(check, "~".repeat(60), "~".repeat(57), 3);
        measured(check, "!".repeat(60), "!".repeat(56), -1);
    }

    private static void tooMany(Check check) {
        NearWords x = new NearWords();
        for (char c = 'A'; c <= 'z'; c++) {
            Typist.add(x, c + "oast");
        }
        check.due("58 with 1 step", 50, Typist.near(x, "toast", 1));
        check.due("t among them although 50 are before it", "t", letterOf(x, 49));
        check.due("its DISTANCE", 0, x.distance(49));
        check.due("48 others before it", "q", letterOf(x, 48));
        Typist.remove(x, "toast");
        check.due("57 with 1 step", 50, Typist.near(x, "toast", 1));
        check.due("the last one", "r", letterOf(x, 49));

        Typist.add(x, "zoasts");
        Typist.add(x, "toasts");
        Typist.add(x, "Aoasts");
        check.due("the nearest are kept, the farther ones not", 50, Typist.near(x, "toast", 3));
        check.due("how many", 50, x.count(3));
        check.due("the first one", "A", letterOf(x, 0));
        check.due("its length", 0, x.letter(0, 5));
        check.due("the second one", "B", letterOf(x, 1));
        check.due("the last one", "r", letterOf(x, 49));
        check.due("like answers all", 60, Typist.like(x, "?oast*"));
        exactlyFifty(check);
    }

    private static void exactlyFifty(Check check) {
        NearWords x = new NearWords();
        for (int i = 0; i < 50; i++) {
            Typist.add(x, "w" + (char) ('!' + i) + "rd");
        }
        check.due("just 50", 50, Typist.near(x, "w~rd", 1));
        check.due("the first of 50", '!', x.letter(0, 1));
        check.due("the last of 50", '!' + 49, x.letter(49, 1));
        Typist.add(x, "w~~d");
        check.due("51", 50, Typist.near(x, "w~~d", 2));
        check.due("the first of 51", '!', x.letter(0, 1));
        check.due("the last of 51, the nearest", '~', x.letter(49, 1));
        check.due("its DISTANCE", 0, x.distance(49));
        check.due("the one before it", '!' + 48, x.letter(48, 1));
    }

    private static String letterOf(NearWords x, int i) {
        return Character.toString(x.letter(i, 0));
    }

    private static void refused(Check check) {
        NearWords x = Typist.with("over", "cover");
        Typist.near(x, "over", 1);
        check.bad("an empty INPUT", () -> x.near(0));
        for (int n : new int[] {-1, 4, Integer.MIN_VALUE, Integer.MAX_VALUE}) {
            check.bad("n " + n + " and an empty INPUT", () -> x.near(n));
            Typist.type(x, "over");
            check.bad("n " + n, () -> x.near(n));
            check.due("INPUT is taken for n " + n, 0, x.count(0));
        }
        check.due("RESULT stays", "cover/1 over/0", Typist.result(x));
        check.due("WORDS stay", 2, x.count(1));
    }
}
