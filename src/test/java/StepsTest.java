/** Terms: DISTANCE, as near shows it, of rows that are longer than it. */
public final class StepsTest {
    private static final String SIXTY = "abcdefghij".repeat(6);
    private static final int TOO_FAR = -1;

    public static void main(String[] args) {
        Check check = new Check();
        none(check);
        oneMoreOrLess(check);
        another(check);
        changingPlaces(check);
        severalSteps(check);
        untouched(check);
        leastNumber(check);
        longRows(check);
        check.end();
    }

    private static void none(Check check) {
        check.sentence("DISTANCE of two rows: the least number of these steps: none");
        measured(check, "abcdef", "abcdef", 0);
        measured(check, "a", "a", 0);
        measured(check, SIXTY, SIXTY, 0);
    }

    private static void oneMoreOrLess(Check check) {
        check.sentence("a CHARACTER more, one less");
        measured(check, "abcdef", "xabcdef", 1);
        measured(check, "abcdef", "abcxdef", 1);
        measured(check, "abcdef", "abcdefx", 1);
        measured(check, "abcdef", "aabcdef", 1);
        measured(check, "abcdef", "abcdeff", 1);
        measured(check, "abcdef", "bcdef", 1);
        measured(check, "abcdef", "abdef", 1);
        measured(check, "abcdef", "abcde", 1);
        measured(check, "abcdef", "xyabcdef", 2);
        measured(check, "abcdef", "xabcdefy", 2);
        measured(check, "abcdef", "abcdefghi", 3);
        measured(check, "abcdef", "xyzabcdef", 3);
        measured(check, "abcdef", "abcdefghij", TOO_FAR);
        measured(check, "aaaaaa", "aaaa", 2);
        measured(check, "aaaaaaa", "aaaa", 3);
    }

    private static void another(Check check) {
        check.sentence("another one for one");
        measured(check, "abcdef", "xbcdef", 1);
        measured(check, "abcdef", "abcxef", 1);
        measured(check, "abcdef", "abcdex", 1);
        measured(check, "abcdef", "Abcdef", 1);
        measured(check, "!~!~!~", "~~!~!~", 1);
        measured(check, "abcdef", "xbcdey", 2);
        measured(check, "abcdef", "uvwdef", 3);
        measured(check, "abcdef", "aubvcw", TOO_FAR);
        measured(check, "abcdef", "uvwxef", TOO_FAR);
    }

    private static void changingPlaces(Check check) {
        check.sentence("two that follow each other changing places");
        measured(check, "abcdef", "bacdef", 1);
        measured(check, "abcdef", "abdcef", 1);
        measured(check, "abcdef", "abcdfe", 1);
        measured(check, "ab", "ba", 1);
        measured(check, "aab", "aba", 1);
        measured(check, "abcdef", "badcef", 2);
        measured(check, "abcdef", "bacdfe", 2);
        measured(check, "abcdef", "badcfe", 3);
        measured(check, "abcdefgh", "badcfehg", TOO_FAR);
        check.sentence("two that follow each other: others do not change places");
        measured(check, "abcdef", "cbadef", 2);
        measured(check, "abcdef", "fbcdea", 2);
        measured(check, "abcdef", "cdabef", TOO_FAR);
    }

    private static void severalSteps(Check check) {
        check.sentence("these steps from one to the other: of several kinds");
        measured(check, "abcdef", "bacdefx", 2);
        measured(check, "abcdef", "bacdex", 2);
        measured(check, "abcdef", "bacde", 2);
        measured(check, "abcdef", "bcadef", 2);
        measured(check, "abcdef", "xbacdef", 2);
        measured(check, "abcdef", "badxef", 3);
        measured(check, "abcdef", "xabdcey", 3);
    }

    /** Each of these would be two steps if what a step has done could be touched again. */
    private static void untouched(Check check) {
        check.sentence("none of them touching what another one has done");
        measured(check, "zzca", "zzabc", 3);
        measured(check, "cazz", "abczz", 3);
        measured(check, "zzcazz", "zzabczz", 3);
        measured(check, "zzzzca", "zzzzabc", 3);
        measured(check, "zzbxazz", "zzabzz", 3);
    }

    private static void leastNumber(Check check) {
        check.sentence("the least number");
        measured(check, "abcdef", "bcdefa", 2);
        measured(check, "abcabc", "bcabca", 2);
        measured(check, "ababab", "bababa", 2);
        measured(check, "abcdef", "fabcde", 2);
        measured(check, "aabbaa", "aaaabb", 3);
        measured(check, "aabbaa", "abbaaa", 2);
    }

    private static void longRows(Check check) {
        check.sentence("DISTANCE of two rows: of 60 CHARACTERS");
        measured(check, SIXTY, SIXTY.substring(1), 1);
        measured(check, SIXTY, SIXTY.substring(0, 59), 1);
        measured(check, SIXTY, SIXTY.substring(0, 57), 3);
        measured(check, SIXTY, SIXTY.substring(3), 3);
        measured(check, SIXTY, SIXTY.substring(4), TOO_FAR);
        measured(check, SIXTY, "ba" + SIXTY.substring(2, 58) + "ji", 2);
        measured(check, SIXTY, "xyz" + SIXTY.substring(3), 3);
        measured(check, SIXTY, SIXTY.substring(0, 57) + "xyz", 3);
        measured(check, SIXTY, SIXTY.substring(3) + "xyz", TOO_FAR);
        measured(check, SIXTY, "x" + SIXTY.substring(0, 59), 2);
        measured(check, "~".repeat(60), "~".repeat(57), 3);
        measured(check, "!".repeat(60), "!".repeat(56), TOO_FAR);
    }

    /** Asks from either row for the other one, with each n. */
    private static void measured(Check check, String one, String other, int distance) {
        for (int n = 0; n <= 3; n++) {
            boolean found = distance != TOO_FAR && distance <= n;
            check.due(one + " near " + other + ", " + n, found ? other + "/" + distance : "", found(other, one, n));
            check.due(other + " near " + one + ", " + n, found ? one + "/" + distance : "", found(one, other, n));
        }
    }

    private static String found(String word, String aim, int n) {
        NearWords x = Typist.with(word);
        Typist.near(x, aim, n);
        return Typist.result(x);
    }
}
