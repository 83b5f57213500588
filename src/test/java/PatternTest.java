/** Terms: PATTERN, as like shows it. */
public final class PatternTest {
    private static final String ALL = "a aa ab aba abab b*b b?b bcb";

    public static void main(String[] args) {
        Check check = new Check();
        anyRow(check);
        emptyRow(check);
        severalAnyRows(check);
        anyOne(check);
        themselves(check);
        longRows(check);
        check.end();
    }

    private static NearWords some() {
        return Typist.with(ALL.split(" "));
    }

    private static void anyRow(Check check) {
        check.sentence("* stands for any row of CHARACTERS");
        NearWords x = some();
        matched(check, x, "*", ALL);
        matched(check, x, "a*", "a aa ab aba abab");
        matched(check, x, "*a", "a aa aba");
        matched(check, x, "*ab", "ab abab");
        matched(check, x, "b*b", "b*b b?b bcb");
        matched(check, x, "c*", "");
        NearWords ends = Typist.with("x!y", "x~y", "x!~!y");
        matched(check, ends, "x*y", "x!y x!~!y x~y");
    }

    private static void emptyRow(Check check) {
        check.sentence("(an empty one, too)");
        NearWords x = some();
        matched(check, x, "*bcb", "bcb");
        matched(check, x, "bcb*", "bcb");
        matched(check, x, "b*cb", "bcb");
        matched(check, x, "*b*c*b*", "bcb");
        matched(check, x, "a*a", "aa aba");
        matched(check, x, "*?", ALL);
        matched(check, x, "?*", ALL);
    }

    private static void severalAnyRows(Check check) {
        check.sentence("* stands for any row: one behind another one");
        NearWords x = some();
        matched(check, x, "**", ALL);
        matched(check, x, "***a***", "a aa ab aba abab");
        matched(check, x, "a**a", "aa aba");
        matched(check, x, "*?**?*?*", "aba abab b*b b?b bcb");
        matched(check, x, "*".repeat(60), ALL);
        matched(check, x, "*".repeat(59) + "a", "a aa aba");
        matched(check, x, "a" + "*".repeat(59), "a aa ab aba abab");
    }

    private static void anyOne(Check check) {
        check.sentence("? for any one CHARACTER");
        NearWords x = some();
        matched(check, x, "?", "a");
        matched(check, x, "??", "aa ab");
        matched(check, x, "a?", "aa ab");
        matched(check, x, "?b", "ab");
        matched(check, x, "b?b", "b*b b?b bcb");
        matched(check, x, "bcb?", "");
        matched(check, x, "?bcb", "");
        matched(check, x, "?????", "");
        matched(check, x, "???*?", "abab");
        NearWords ends = Typist.with("!", "~", "!~");
        matched(check, ends, "?", "! ~");
    }

    private static void themselves(Check check) {
        check.sentence("all others for themselves");
        NearWords x = Typist.with("!", "~", "a", "A", "a.c", "abc", "[a]", "\\?", "ab+");
        for (String word : new String[] {"!", "~", "a", "A", "a.c", "abc", "[a]", "ab+"}) {
            matched(check, x, word, word);
        }
        matched(check, x, "\\?", "\\?");
        matched(check, x, "ab", "");
        matched(check, x, "abcd", "");
        matched(check, x, "ABC", "");
        for (char c = '!'; c <= '~'; c++) {
            matched(check, Typist.with("x" + c), "x" + c, "x" + c);
            String other = "x" + (c == '!' ? '~' : (char) (c - 1));
            matched(check, Typist.with(other), "x" + c, c == '*' || c == '?' ? other : "");
        }
    }

    private static void longRows(Check check) {
        check.sentence("PATTERN: of 60 CHARACTERS");
        String same = "a".repeat(60);
        String other = "a".repeat(59) + "b";
        NearWords x = Typist.with(same, other, "!~");
        matched(check, x, same, same);
        matched(check, x, other, other);
        matched(check, x, "?".repeat(60), same + " " + other);
        matched(check, x, "?".repeat(59), "");
        matched(check, x, "*a".repeat(30), same);
        matched(check, x, "*a".repeat(29) + "*b", other);
        matched(check, x, "a*".repeat(30), same + " " + other);
        matched(check, x, "?*".repeat(30), same + " " + other);
        matched(check, x, "?".repeat(59) + "*", same + " " + other);
        matched(check, x, "*" + "a".repeat(59), same);
        matched(check, x, "a".repeat(59) + "?", same + " " + other);
        matched(check, x, "!~", "!~");
    }

    /** The words that match, with one space between them. */
    private static void matched(Check check, NearWords x, String pattern, String words) {
        int want = words.isEmpty() ? 0 : words.split(" ").length;
        check.due("like " + pattern, want, Typist.like(x, pattern));
        String result = words.isEmpty() ? "" : words.replace(" ", "/0 ") + "/0";
        check.due("RESULT of " + pattern, result, Typist.result(x));
    }
}
