import java.util.ArrayList;
import java.util.Collections;
import java.util.List;

/** Promise 5: near. What DISTANCE is stands in StepsTest. */
public final class NearTest {
    private static final String SIXTY = "abcdefghij".repeat(6);
    private static final String AIM = "mmmmmmmm";

    public static void main(String[] args) {
        Check check = new Check();
        empty(check);
        emptyThen(check);
        range(check);
        upToN(check);
        belowBothLengths(check);
        zeroInAnyCase(check);
        nearestFifty(check);
        sharedRoom(check);
        firstInOrder(check);
        inOrder(check);
        howMany(check);
        check.end();
    }

    private static void empty(Check check) {
        check.sentence("Takes INPUT (not empty");
        NearWords x = Typist.with("over", "cover");
        for (int n = 0; n <= 3; n++) {
            int steps = n;
            check.bad("an empty INPUT, " + n, () -> x.near(steps));
            check.due("over, " + n, n == 0 ? 1 : 2, Typist.near(x, "over", n));
            check.due("INPUT is taken", 0, x.count(0));
            check.bad("INPUT is empty then, " + n, () -> x.near(steps));
        }
        check.bad("of a new object", () -> new NearWords().near(0));
        x.type(0L, 0L);
        check.bad("zeros make no INPUT", () -> x.near(3));
    }

    private static void emptyThen(Check check) {
        check.sentence("it is empty then for a bad n, too");
        NearWords x = Typist.with("over", "cover");
        for (int n : new int[] {-1, 4, Integer.MIN_VALUE, Integer.MAX_VALUE}) {
            Typist.type(x, SIXTY);
            check.bad("n " + n, () -> x.near(n));
            check.due("INPUT is taken for n " + n, 0, x.count(0));
            check.bad("nothing to add for n " + n, x::add);
        }
    }

    private static void range(Check check) {
        check.sentence("(n 0 .. 3)");
        NearWords x = Typist.with("over");
        for (int n = -3; n <= 6; n++) {
            int steps = n;
            Typist.type(x, "over");
            check.due("n " + n, n >= 0 && n <= 3 ? "1" : Check.BAD, Check.outcome(() -> x.near(steps)));
        }
        for (int n : new int[] {256, 1 << 16, -256, Integer.MIN_VALUE, Integer.MIN_VALUE + 1, Integer.MAX_VALUE}) {
            Typist.type(x, "over");
            check.bad("n " + n, () -> x.near(n));
            check.bad("n " + n + " and an empty INPUT", () -> x.near(n));
        }
        check.due("RESULT stays", "over/0", Typist.result(x));
    }

    private static void upToN(Check check) {
        check.sentence("the WORDS with a DISTANCE from it that is 0 .. n");
        NearWords x = Typist.with("river", "rivers", "rover", "over", "cover", "clover", "lover", "love", "glove");
        found(check, x, "over", 0, "over/0");
        found(check, x, "over", 1, "cover/1 lover/1 over/0 rover/1");
        found(check, x, "over", 2, "clover/2 cover/1 love/2 lover/1 over/0 river/2 rover/1");
        found(check, x, "over", 3, "clover/2 cover/1 glove/3 love/2 lover/1 over/0 river/2 rivers/3 rover/1");
        found(check, x, "quartz", 3, "");
        found(check, x, "?ove*", 0, "");
        NearWords far = Typist.with(AIM, AIM + "1", AIM + "12", AIM + "123", AIM + "1234");
        found(check, far, AIM, 0, AIM + "/0");
        found(check, far, AIM, 1, AIM + "/0 " + AIM + "1/1");
        found(check, far, AIM, 2, AIM + "/0 " + AIM + "1/1 " + AIM + "12/2");
        found(check, far, AIM, 3, AIM + "/0 " + AIM + "1/1 " + AIM + "12/2 " + AIM + "123/3");
    }

    private static void belowBothLengths(Check check) {
        check.sentence("and below both lengths");
        only(check, "a", "b", 3, "");
        only(check, "a", "ab", 3, "");
        only(check, "a", "abcd", 3, "");
        only(check, "ab", "ba", 3, "ba/1");
        only(check, "ab", "ac", 3, "ac/1");
        only(check, "ab", "abc", 3, "abc/1");
        only(check, "ab", "cd", 3, "");
        only(check, "ab", "abcd", 3, "");
        only(check, "ab", "xay", 3, "");
        only(check, "abc", "axy", 3, "axy/2");
        only(check, "abc", "abcde", 3, "abcde/2");
        only(check, "abc", "bad", 3, "bad/2");
        only(check, "abc", "xyz", 3, "");
        only(check, "abc", "abcdef", 3, "");
        only(check, "aaaaaa", "aaa", 3, "");
        only(check, "abcd", "axyz", 3, "axyz/3");
        only(check, "abcd", "abcdefg", 3, "abcdefg/3");
        only(check, "abcd", "a", 3, "");
        only(check, "abc", "ab", 1, "ab/1");
        only(check, "ab", "a", 1, "");
        only(check, SIXTY, "a", 3, "");
    }

    private static void zeroInAnyCase(Check check) {
        check.sentence("(0 in any case)");
        for (int n = 0; n <= 3; n++) {
            for (String row : new String[] {"a", "!", "~", "ab", "*", SIXTY}) {
                only(check, row, row, n, row + "/0");
            }
            found(check, Typist.with("a", "b", "c", "ab"), "b", n, "b/0");
        }
    }

    /** Words that are so many steps away from AIM, at most 57, with A .. z at their beginning. */
    private static List<String> wordsAt(int steps, int many) {
        List<String> words = new ArrayList<>();
        for (int i = 0; i < many; i++) {
            char first = (char) ('A' + i);
            String changed = (first < 'm' ? first : (char) (first + 1)) + "12".substring(0, steps - 1);
            words.add(changed + AIM.substring(steps));
        }
        return words;
    }

    private static NearWords withAll(List<String> words) {
        List<String> backward = new ArrayList<>(words);
        Collections.reverse(backward);
        return Typist.with(backward.toArray(new String[0]));
    }

    private static void nearestFifty(Check check) {
        check.sentence("if they are more than 50, the 50 with the least DISTANCE");
        String two = "!!" + AIM.substring(2);
        for (int others = 46; others <= 57; others++) {
            NearWords x = withAll(wordsAt(1, others));
            Typist.add(x, AIM);
            Typist.add(x, two);
            check.due(others + " others", Math.min(50, others + 2), Typist.near(x, AIM, 3));
            String result = Typist.result(x);
            check.due("the same row is there", true, result.contains(AIM + "/0"));
            boolean room = others + 2 <= 50;
            check.due("the farthest one is first or not there", room, result.startsWith(two + "/2 "));
            check.due("no other one is so far", room, result.contains("/2"));
        }
    }

    private static void sharedRoom(Check check) {
        check.sentence("the 50 with the least DISTANCE: of all that are 0 .. n steps away");
        for (int one = 0; one <= 26; one += 13) {
            for (int two = 0; two <= 26; two += 2) {
                roomFor(check, one, two, 26);
            }
        }
        roomFor(check, 25, 25, 1);
        roomFor(check, 25, 24, 1);
        roomFor(check, 25, 24, 2);
        roomFor(check, 25, 26, 0);
        roomFor(check, 25, 25, 0);
    }

    /** Those with more steps stand before those with fewer, and leave room for them all the same. */
    private static void roomFor(Check check, int one, int two, int three) {
        List<String> all = new ArrayList<>(wordsAt(1, one));
        all.addAll(wordsAt(2, two));
        all.addAll(wordsAt(3, three));
        NearWords x = withAll(all);
        int kept = Math.min(50, one + two + three);
        List<String> due = new ArrayList<>();
        addDue(due, wordsAt(1, one), 1);
        addDue(due, wordsAt(2, two), 2);
        addDue(due, wordsAt(3, three), 3);
        Collections.sort(due);
        String what = one + ", " + two + ", " + three + " words";
        check.due(what, kept, Typist.near(x, AIM, 3));
        check.due("RESULT of " + what, String.join(" ", due), Typist.result(x));
    }

    private static void addDue(List<String> due, List<String> words, int steps) {
        for (String word : words) {
            if (due.size() < 50) {
                due.add(word + "/" + steps);
            }
        }
    }

    private static void firstInOrder(Check check) {
        check.sentence("of equal ones the first in order");
        NearWords x = new NearWords();
        for (char c = 'z'; c >= 'A'; c--) {
            Typist.add(x, c + "oast");
        }
        check.due("58, one of them the same", 50, Typist.near(x, "toast", 1));
        check.due("t among them although 50 are before it", 't', x.letter(49, 0));
        check.due("its DISTANCE", 0, x.distance(49));
        check.due("48 others before it", 'q', x.letter(48, 0));
        Typist.remove(x, "toast");
        check.due("57 with 1 step", 50, Typist.near(x, "toast", 1));
        check.due("the last one", 'r', x.letter(49, 0));
        Typist.add(x, "zoasts");
        Typist.add(x, "toasts");
        Typist.add(x, "Aoasts");
        check.due("the nearest are kept, the farther ones not", 50, Typist.near(x, "toast", 3));
        check.due("the first one", 'A', x.letter(0, 0));
        check.due("its length", 0, x.letter(0, 5));
        check.due("the second one", 'B', x.letter(1, 0));
        check.due("the last one", 'r', x.letter(49, 0));
        check.due("like answers all", 60, Typist.like(x, "?oast*"));
    }

    private static void inOrder(Check check) {
        check.sentence("RESULT is in the order of WORDS.");
        NearWords x = Typist.with("toasty", "toast", "boast", "toads", "roasts", "toasts", "coats");
        found(check, x, "toast", 3, "boast/1 coats/2 roasts/2 toads/2 toast/0 toasts/1 toasty/1");
        found(check, x, "roast", 2, "boast/1 coats/2 roasts/1 toast/1 toasts/2 toasty/2");
    }

    private static void howMany(Check check) {
        check.sentence("Answers how many.");
        check.due("no WORDS", 0, Typist.near(new NearWords(), "over", 3));
        check.due("none near", 0, Typist.near(Typist.with("quartz"), "over", 3));
        for (int many = 1; many <= 57; many++) {
            check.due("of " + many, Math.min(50, many), Typist.near(withAll(wordsAt(1, many)), AIM, 1));
        }
        NearWords x = Typist.withThousandWords();
        check.due("of 1000", 50, Typist.near(x, "w111", 3));
        check.due("in RESULT", 50, x.count(3));
        check.due("of 1000, 1 step", 28, Typist.near(x, "w111", 1));
    }

    private static void found(Check check, NearWords x, String aim, int n, String result) {
        int want = result.isEmpty() ? 0 : result.split(" ").length;
        check.due(aim + ", " + n, want, Typist.near(x, aim, n));
        check.due("RESULT of " + aim + ", " + n, result, Typist.result(x));
    }

    /** Asks a dictionary of one word. */
    private static void only(Check check, String aim, String word, int n, String result) {
        found(check, Typist.with(word), aim, n, result);
    }
}
