import java.util.HashMap;
import java.util.HashSet;
import java.util.List;
import java.util.Map;
import java.util.Set;

/**
 * Terms: DISTANCE once more, word for word: the steps themselves are tried, one after the other, on all short rows of
 * three CHARACTERS. In a row on its way a capital stands for a CHARACTER that a step has done, and a | for a place
 * between two that a step has done: where one is gone, or where two have changed places.
 */
public final class StepSearchTest {
    private static final String CHARACTERS = "abc";
    private static final String DONE = "|";
    private static final int MOST_STEPS = 3;
    private static final int LONGEST_AIM = 4;
    private static final int LONGEST_WORD = 5;

    public static void main(String[] args) {
        Check check = new Check();
        check.sentence("the least number of these steps [..], none of them touching what another one has done");
        List<String> words = Typist.rows(CHARACTERS, LONGEST_WORD);
        for (String aim : Typist.rows(CHARACTERS, LONGEST_AIM)) {
            ask(check, aim, words, stepsFrom(aim));
        }
        check.end();
    }

    private static void ask(Check check, String aim, List<String> words, Map<String, Integer> steps) {
        NearWords x = new NearWords();
        for (String word : words) {
            Typist.add(x, word);
            Typist.near(x, aim, MOST_STEPS);
            int least = steps.getOrDefault(word, MOST_STEPS + 1);
            boolean found = least <= MOST_STEPS && least < Math.min(aim.length(), word.length());
            check.due(aim + " near " + word, found ? word + "/" + least : "", Typist.result(x));
            Typist.remove(x, word);
        }
    }

    /** All rows that MOST_STEPS lead to, each with the least number of them. */
    private static Map<String, Integer> stepsFrom(String row) {
        Map<String, Integer> steps = new HashMap<>();
        Set<String> reached = Set.of(row);
        for (int made = 0; made <= MOST_STEPS; made++) {
            Set<String> next = new HashSet<>();
            for (String way : reached) {
                steps.putIfAbsent(plain(way), made);
                if (made < MOST_STEPS) {
                    takeStep(way, next);
                }
            }
            reached = next;
        }
        return steps;
    }

    private static void takeStep(String way, Set<String> next) {
        for (int k = 0; k <= way.length(); k++) {
            String before = way.substring(0, k);
            String behind = way.substring(k);
            if (!before.endsWith(DONE) && !behind.startsWith(DONE)) {
                putOneBetween(before, behind, next);
            }
            if (isUntouched(behind, 0)) {
                next.add(joinedAtGap(before, behind.substring(1)));
                putOneBetween(before, behind.substring(1), next);
            }
            if (isUntouched(behind, 0) && isUntouched(behind, 1)) {
                String changed = behind.charAt(1) + DONE + behind.charAt(0);
                next.add(before + changed.toUpperCase() + behind.substring(2));
            }
        }
    }

    private static void putOneBetween(String before, String behind, Set<String> next) {
        for (char c : CHARACTERS.toUpperCase().toCharArray()) {
            next.add(before + c + behind);
        }
    }

    private static String joinedAtGap(String before, String behind) {
        String end = before.endsWith(DONE) ? "" : DONE;
        return before + end + (behind.startsWith(DONE) ? behind.substring(1) : behind);
    }

    private static boolean isUntouched(String way, int k) {
        return k < way.length() && Character.isLowerCase(way.charAt(k));
    }

    private static String plain(String way) {
        return way.replace(DONE, "").toLowerCase();
    }
}
