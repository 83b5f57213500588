import java.util.ArrayList;
import java.util.HashSet;
import java.util.List;
import java.util.Set;

/**
 * Terms: PATTERN once more, word for word: for each short PATTERN all short rows are written down that it stands for,
 * and like has to find just these.
 */
public final class PatternSearchTest {
    private static final String CHARACTERS = "ab*";
    private static final String PARTS = "ab*?";
    private static final int LONGEST_WORD = 4;
    private static final int LONGEST_PATTERN = 5;
    private static final int IN_RESULT = 50;

    public static void main(String[] args) {
        Check check = new Check();
        check.sentence("* stands for any row of CHARACTERS (an empty one, too), ? for any one CHARACTER, all others for"
            + " themselves");
        List<String> words = Typist.rows(CHARACTERS, LONGEST_WORD);
        words.sort(null);
        NearWords x = Typist.with(words.toArray(new String[0]));
        for (String pattern : Typist.rows(PARTS, LONGEST_PATTERN)) {
            ask(check, x, pattern, words);
        }
        check.end();
    }

    private static void ask(Check check, NearWords x, String pattern, List<String> words) {
        Set<String> meant = meantBy(pattern, words);
        List<String> due = new ArrayList<>();
        for (String word : words) {
            if (meant.contains(word)) {
                due.add(word + "/0");
            }
        }
        check.due("like " + pattern, due.size(), Typist.like(x, pattern));
        List<String> first = due.subList(0, Math.min(IN_RESULT, due.size()));
        check.due("RESULT of " + pattern, String.join(" ", first), Typist.result(x));
    }

    private static Set<String> meantBy(String pattern, List<String> words) {
        Set<String> meant = Set.of("");
        for (char part : pattern.toCharArray()) {
            Set<String> longer = new HashSet<>();
            for (String row : meant) {
                for (String more : meantBy(part, words)) {
                    if (row.length() + more.length() <= LONGEST_WORD) {
                        longer.add(row + more);
                    }
                }
            }
            meant = longer;
        }
        return meant;
    }

    private static List<String> meantBy(char part, List<String> words) {
        if (part == '?') {
            return Typist.rows(CHARACTERS, 1);
        }
        if (part != '*') {
            return List.of(String.valueOf(part));
        }
        List<String> any = new ArrayList<>(words);
        any.add("");
        return any;
    }
}
