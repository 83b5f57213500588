import java.util.ArrayList;
import java.util.Comparator;
import java.util.List;
import java.util.TreeSet;

/** The document once more, in the plainest form that the Java library allows. */
final class Model {
    private record Found(String word, int distance) {
    }

    private String input = "";
    private final TreeSet<String> words = new TreeSet<>();
    private List<Found> result = new ArrayList<>();

    int type(long first, long second) {
        StringBuilder more = new StringBuilder();
        for (long number : new long[] {first, second}) {
            for (int i = 7; i >= 0; i--) {
                int character = (int) (number >> 8 * i & 0xFF);
                if (character != 0) {
                    more.append((char) character);
                }
            }
        }
        if (more.chars().anyMatch(c -> c < 33 || c > 126)) {
            throw new IllegalArgumentException();
        }
        if (input.length() + more.length() > 60) {
            throw new IndexOutOfBoundsException();
        }
        input += more;
        return input.length();
    }

    int add() {
        String word = takeWord();
        if (!words.contains(word) && (words.size() == 1000 || count(2) + word.length() > 12000)) {
            throw new IndexOutOfBoundsException();
        }
        words.add(word);
        return words.size();
    }

    int remove() {
        words.remove(takeWord());
        return words.size();
    }

    int near(int n) {
        String aim = take();
        if (n < 0 || n > 3 || aim.isEmpty()) {
            throw new IllegalArgumentException();
        }
        List<Found> all = new ArrayList<>();
        for (String word : words) {
            int distance = distance(aim, word);
            if (distance == 0 || distance <= n && distance < aim.length() && distance < word.length()) {
                all.add(new Found(word, distance));
            }
        }
        all.sort(Comparator.comparingInt(Found::distance));
        result = new ArrayList<>(all.subList(0, Math.min(50, all.size())));
        result.sort(Comparator.comparing(Found::word));
        return result.size();
    }

    int like() {
        String pattern = take();
        result = new ArrayList<>();
        int matching = 0;
        for (String word : words) {
            if (fits(pattern, word)) {
                matching++;
                if (matching <= 50) {
                    result.add(new Found(word, 0));
                }
            }
        }
        return matching;
    }

    int before() {
        return words.headSet(take()).size();
    }

    int letter(int i, int k) {
        if (i < 0 || i >= result.size() || k < 0) {
            throw new IllegalArgumentException();
        }
        String word = result.get(i).word();
        return k < word.length() ? word.charAt(k) : 0;
    }

    int distance(int i) {
        if (i < 0 || i >= result.size()) {
            throw new IllegalArgumentException();
        }
        return result.get(i).distance();
    }

    int count(int what) {
        return switch (what) {
            case 0 -> input.length();
            case 1 -> words.size();
            case 2 -> words.stream().mapToInt(String::length).sum();
            case 3 -> result.size();
            case 4 -> words.stream().mapToInt(String::length).max().orElse(0);
            default -> -1;
        };
    }

    List<String> words() {
        return new ArrayList<>(words);
    }

    private String take() {
        String taken = input;
        input = "";
        return taken;
    }

    private String takeWord() {
        String word = take();
        if (word.isEmpty()) {
            throw new IllegalArgumentException();
        }
        return word;
    }

    /** fits[i][j]: the pattern from i on stands for the word from j on. */
    private static boolean fits(String pattern, String word) {
        boolean[][] fits = new boolean[pattern.length() + 1][word.length() + 1];
        fits[pattern.length()][word.length()] = true;
        for (int i = pattern.length() - 1; i >= 0; i--) {
            char c = pattern.charAt(i);
            for (int j = word.length(); j >= 0; j--) {
                boolean more = j < word.length();
                if (c == '*') {
                    fits[i][j] = fits[i + 1][j] || more && fits[i][j + 1];
                } else {
                    fits[i][j] = more && (c == '?' || c == word.charAt(j)) && fits[i + 1][j + 1];
                }
            }
        }
        return fits[0][0];
    }

    /** least[i][j]: from the first i CHARACTERS of the one to the first j of the other. */
    static int distance(String one, String other) {
        int[][] least = new int[one.length() + 1][other.length() + 1];
        for (int i = 0; i <= one.length(); i++) {
            for (int j = 0; j <= other.length(); j++) {
                least[i][j] = i == 0 ? j : j == 0 ? i : leastOf(least, one, other, i, j);
            }
        }
        return least[one.length()][other.length()];
    }

    private static int leastOf(int[][] least, String one, String other, int i, int j) {
        boolean same = one.charAt(i - 1) == other.charAt(j - 1);
        int steps = least[i - 1][j - 1] + (same ? 0 : 1);
        steps = Math.min(steps, Math.min(least[i - 1][j], least[i][j - 1]) + 1);
        if (i > 1 && j > 1 && one.charAt(i - 1) == other.charAt(j - 2) && one.charAt(i - 2) == other.charAt(j - 1)) {
            steps = Math.min(steps, least[i - 2][j - 2] + 1);
        }
        return steps;
    }
}
