import java.util.ArrayList;
import java.util.List;

/** Says in texts what the dictionary takes in numbers. */
final class Typist {
    private static final int IN_ONE_NUMBER = 8;
    private static final int IN_ONE_CALL = 16;

    private Typist() {
    }

    static long number(String text) {
        long number = 0;
        for (int i = 0; i < text.length(); i++) {
            number = number << 8 | text.charAt(i);
        }
        return number;
    }

    static int type(NearWords x, String text) {
        int length = x.count(0);
        for (int from = 0; from < text.length(); from += IN_ONE_CALL) {
            String part = text.substring(from, Math.min(text.length(), from + IN_ONE_CALL));
            String first = part.substring(0, Math.min(part.length(), IN_ONE_NUMBER));
            length = x.type(number(first), number(part.substring(first.length())));
        }
        return length;
    }

    static NearWords with(String... words) {
        NearWords x = new NearWords();
        for (String word : words) {
            add(x, word);
        }
        return x;
    }

    static int add(NearWords x, String word) {
        type(x, word);
        return x.add();
    }

    static int remove(NearWords x, String word) {
        type(x, word);
        return x.remove();
    }

    static int near(NearWords x, String aim, int n) {
        type(x, aim);
        return x.near(n);
    }

    static int like(NearWords x, String pattern) {
        type(x, pattern);
        return x.like();
    }

    static int before(NearWords x, String row) {
        type(x, row);
        return x.before();
    }

    /** RESULT as a text, such as "over/1 rover/0". */
    static String result(NearWords x) {
        List<String> found = new ArrayList<>();
        for (int i = 0; i < x.count(3); i++) {
            StringBuilder word = new StringBuilder();
            for (int k = 0; x.letter(i, k) != 0; k++) {
                word.append((char) x.letter(i, k));
            }
            found.add(word + "/" + x.distance(i));
        }
        return String.join(" ", found);
    }
}
