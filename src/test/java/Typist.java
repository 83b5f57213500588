import java.util.ArrayList;
import java.util.List;

/** Says in texts what the dictionary takes in numbers. */
final class Typist {
    private static final int IN_ONE_NUMBER = 8;
    private static final int IN_ONE_CALL = 16;

    private Typist() {
    }

    static long number(String text) {
        long number = 0;
        for (int i = 0; i < text.length(); i++) {
            number = number << 8 | text.charAt(i);
        }
        return number;
    }

    /** The two numbers of each call that types the text. */
    static List<long[]> numbers(String text) {
        List<long[]> numbers = new ArrayList<>();
        for (int from = 0; from < text.length(); from += IN_ONE_CALL) {
            String part = text.substring(from, Math.min(text.length(), from + IN_ONE_CALL));
            int cut = Math.min(part.length(), IN_ONE_NUMBER);
            numbers.add(new long[] {number(part.substring(0, cut)), number(part.substring(cut))});
        }
        return numbers;
    }

    static int type(NearWords x, String text) {
        int length = x.count(0);
        for (long[] pair : numbers(text)) {
            length = x.type(pair[0], pair[1]);
        }
        return length;
    }

    /** All rows of 1 .. longest of these CHARACTERS. */
    static List<String> rows(String characters, int longest) {
        List<String> rows = new ArrayList<>();
        List<String> last = List.of("");
        for (int length = 1; length <= longest; length++) {
            List<String> longer = new ArrayList<>();
            for (String row : last) {
                for (char c : characters.toCharArray()) {
                    longer.add(row + c);
                }
            }
            rows.addAll(longer);
            last = longer;
        }
        return rows;
    }

    static NearWords with(String... words) {
        NearWords x = new NearWords();
        for (String word : words) {
            add(x, word);
        }
        return x;
    }

    /** 1000 WORDS, w0 .. w999, which come in another order than theirs. */
    static NearWords withThousandWords() {
        NearWords x = new NearWords();
        for (int i = 0; i < 1000; i++) {
            add(x, "w" + i * 7 % 1000);
        }
        return x;
    }

    /** WORDS of 60 CHARACTERS, 000xx.. and so on, as many as asked for. */
    static NearWords withLongWords(int many) {
        NearWords x = new NearWords();
        for (int i = 0; i < many; i++) {
            add(x, longWord(i));
        }
        return x;
    }

    static String longWord(int i) {
        return String.format("%03d", i) + "x".repeat(57);
    }

    static int add(NearWords x, String word) {
        type(x, word);
        return x.add();
    }

    static int remove(NearWords x, String word) {
        type(x, word);
        return x.remove();
    }

    static int near(NearWords x, String aim, int n) {
        type(x, aim);
        return x.near(n);
    }

    static int like(NearWords x, String pattern) {
        type(x, pattern);
        return x.like();
    }

    static int before(NearWords x, String row) {
        type(x, row);
        return x.before();
    }

    /** RESULT as a text, such as "over/1 rover/0". */
    static String result(NearWords x) {
        List<String> found = new ArrayList<>();
        for (int i = 0; i < x.count(3); i++) {
            found.add(word(x, i) + "/" + x.distance(i));
        }
        return String.join(" ", found);
    }

    /** The first 50 WORDS as a text. INPUT has to be empty, and RESULT is another one then. */
    static String words(NearWords x) {
        like(x, "*");
        List<String> words = new ArrayList<>();
        for (int i = 0; i < x.count(3); i++) {
            words.add(word(x, i));
        }
        return String.join(" ", words);
    }

    /** All that can be seen without a change: the five counts and RESULT. */
    static String seen(NearWords x) {
        StringBuilder seen = new StringBuilder();
        for (int what = 0; what <= 4; what++) {
            seen.append(x.count(what)).append(' ');
        }
        return seen.append(result(x)).toString();
    }

    private static String word(NearWords x, int i) {
        StringBuilder word = new StringBuilder();
        for (int k = 0; x.letter(i, k) != 0; k++) {
            word.append((char) x.letter(i, k));
        }
        return word.toString();
    }
}
