import java.util.Arrays;

/** A dictionary that finds what is nearly a word, what is as a pattern says, and what stands where in the order. */
public final class NearWords {
    private static final int LOWEST_CHARACTER = 33;
    private static final int HIGHEST_CHARACTER = 126;
    private static final int MAX_LENGTH = 60;
    private static final int MAX_WORDS = 1000;
    private static final int MAX_CHARACTERS = 12000;
    private static final int MAX_FOUND = 50;
    private static final int MAX_DISTANCE = 3;
    private static final int HIGHEST_BYTE_SHIFT = 56;

    private Row input = new Row();
    private Row taken = new Row();
    private final WordList words = new WordList();
    private final Result result = new Result();
    private final Pattern pattern = new Pattern();
    private final Meter meter = new Meter();
    private final Nearest nearest = new Nearest();

    public NearWords() {
    }

    public int type(long first, long second) throws IllegalArgumentException, IndexOutOfBoundsException {
        if (!isTypable(first) || !isTypable(second)) {
            throw new IllegalArgumentException();
        }
        if (input.length() + bytesIn(first) + bytesIn(second) > MAX_LENGTH) {
            throw new IndexOutOfBoundsException();
        }
        appendToInput(first);
        appendToInput(second);
        return input.length();
    }

    public int add() throws IllegalArgumentException, IndexOutOfBoundsException {
        Row word = takeInput();
        if (word.isEmpty()) {
            throw new IllegalArgumentException();
        }
        int place = words.placeOf(word);
        if (words.isAt(place, word)) {
            return words.size();
        }
        if (!words.hasRoomFor(word)) {
            throw new IndexOutOfBoundsException();
        }
        words.insertAt(place, word);
        return words.size();
    }

    public int remove() throws IllegalArgumentException {
        Row word = takeInput();
        if (word.isEmpty()) {
            throw new IllegalArgumentException();
        }
        int place = words.placeOf(word);
        if (words.isAt(place, word)) {
            words.deleteAt(place);
        }
        return words.size();
    }

    public int near(int n) throws IllegalArgumentException {
        Row aim = takeInput();
        if (n < 0 || n > MAX_DISTANCE || aim.isEmpty()) {
            throw new IllegalArgumentException();
        }
        meter.aimAt(aim);
        nearest.clear();
        for (int i = 0; i < words.size(); i++) {
            // A DISTANCE has to stay below both lengths, so short rows allow fewer steps than n.
            int most = Math.min(n, Math.min(aim.length(), words.lengthOf(i)) - 1);
            nearest.note(i, meter.stepsTo(words, i, most));
        }
        nearest.moveTo(result, words);
        return result.size();
    }

    public int like() {
        pattern.read(takeInput());
        result.clear();
        int matching = 0;
        for (int i = 0; i < words.size(); i++) {
            if (pattern.fits(words, i)) {
                matching++;
                result.keep(words, i, 0);
            }
        }
        return matching;
    }

    public int before() {
        return words.placeOf(takeInput());
    }

    public int letter(int i, int k) throws IllegalArgumentException {
        if (!result.has(i) || k < 0) {
            throw new IllegalArgumentException();
        }
        return result.characterAt(i, k);
    }

    public int distance(int i) throws IllegalArgumentException {
        if (!result.has(i)) {
            throw new IllegalArgumentException();
        }
        return result.stepsOf(i);
    }

    public int count(int what) {
        switch (what) {
            case 0:
                return input.length();
            case 1:
                return words.size();
            case 2:
                return words.characters();
            case 3:
                return result.size();
            case 4:
                return words.longest();
            default:
                return -1;
        }
    }

    /** The two rows change places, so that INPUT is empty at once, whatever comes of the call. */
    private Row takeInput() {
        Row full = input;
        input = taken;
        taken = full;
        input.clear();
        return full;
    }

    private void appendToInput(long number) {
        for (int shift = HIGHEST_BYTE_SHIFT; shift >= 0; shift -= 8) {
            int character = byteOf(number, shift);
            if (character != 0) {
                input.append(character);
            }
        }
    }

    private static boolean isTypable(long number) {
        for (int shift = HIGHEST_BYTE_SHIFT; shift >= 0; shift -= 8) {
            int character = byteOf(number, shift);
            if (character != 0 && (character < LOWEST_CHARACTER || character > HIGHEST_CHARACTER)) {
                return false;
            }
        }
        return true;
    }

    private static int bytesIn(long number) {
        int bytes = 0;
        for (int shift = HIGHEST_BYTE_SHIFT; shift >= 0; shift -= 8) {
            if (byteOf(number, shift) != 0) {
                bytes++;
            }
        }
        return bytes;
    }

    private static int byteOf(long number, int shift) {
        return (int) (number >>> shift) & 255;
    }

    /** A row of CHARACTERS as it was typed. */
    private static final class Row {
        private final byte[] characters = new byte[MAX_LENGTH];
        private int length = 0;

        int length() {
            return length;
        }

        boolean isEmpty() {
            return length == 0;
        }

        int at(int k) {
            return characters[k];
        }

        void clear() {
            length = 0;
        }

        void append(int character) {
            if (length < MAX_LENGTH) {
                characters[length] = (byte) character;
                length++;
            }
        }

        void copyTo(byte[] target, int start) {
            System.arraycopy(characters, 0, target, start, length);
        }
    }

    /** WORDS, one behind the other in their order, in one row of CHARACTERS. */
    private static final class WordList {
        /** The first step of the search for a place: all steps together reach beyond MAX_WORDS. */
        private static final int WIDEST_STEP = 512;

        private final byte[] characters = new byte[MAX_CHARACTERS];
        /** Where each word starts; one more tells where the last one ends. */
        private final int[] starts = new int[MAX_WORDS + 1];
        private int size = 0;

        int size() {
            return size;
        }

        int characters() {
            return starts[size];
        }

        int lengthOf(int i) {
            return starts[i + 1] - starts[i];
        }

        int at(int i, int k) {
            return characters[starts[i] + k];
        }

        int longest() {
            int longest = 0;
            for (int i = 0; i < size; i++) {
                longest = Math.max(longest, lengthOf(i));
            }
            return longest;
        }

        /** How many words stand before the row, which is the place where it stands or would stand. */
        int placeOf(Row row) {
            int place = 0;
            for (int step = WIDEST_STEP; step > 0; step /= 2) {
                if (place + step <= size && compare(place + step - 1, row) < 0) {
                    place += step;
                }
            }
            return place;
        }

        boolean isAt(int place, Row row) {
            return place < size && compare(place, row) == 0;
        }

        boolean hasRoomFor(Row row) {
            return size < MAX_WORDS && characters() + row.length() <= MAX_CHARACTERS;
        }

        void insertAt(int place, Row row) {
            int start = starts[place];
            int length = row.length();
            System.arraycopy(characters, start, characters, start + length, characters() - start);
            row.copyTo(characters, start);
            for (int i = size; i >= place; i--) {
                starts[i + 1] = starts[i] + length;
            }
            size++;
        }

        void deleteAt(int place) {
            int start = starts[place];
            int end = starts[place + 1];
            System.arraycopy(characters, end, characters, start, characters() - end);
            for (int i = place; i < size; i++) {
                starts[i] = starts[i + 1] - (end - start);
            }
            size--;
        }

        void copyTo(byte[] target, int i) {
            System.arraycopy(characters, starts[i], target, 0, lengthOf(i));
        }

        private int compare(int i, Row row) {
            int length = lengthOf(i);
            int common = Math.min(length, row.length());
            for (int k = 0; k < common; k++) {
                if (at(i, k) != row.at(k)) {
                    return at(i, k) - row.at(k);
                }
            }
            return length - row.length();
        }
    }

    /** RESULT: copies, because it stays as it is when WORDS come and go. */
    private static final class Result {
        private final byte[][] characters = new byte[MAX_FOUND][MAX_LENGTH];
        private final int[] lengths = new int[MAX_FOUND];
        private final int[] steps = new int[MAX_FOUND];
        private int size = 0;

        int size() {
            return size;
        }

        boolean has(int i) {
            return i >= 0 && i < size;
        }

        int characterAt(int i, int k) {
            return k < lengths[i] ? characters[i][k] : 0;
        }

        int stepsOf(int i) {
            return steps[i];
        }

        void clear() {
            size = 0;
        }

        /** What comes when it is full is left out. */
        void keep(WordList words, int i, int distance) {
            if (size < MAX_FOUND) {
                words.copyTo(characters[size], i);
                lengths[size] = words.lengthOf(i);
                steps[size] = distance;
                size++;
            }
        }
    }

    /** A PATTERN. A set of places in it is a long: bit p stands for the place before its part p. */
    private static final class Pattern {
        private final long[] placesOf = new long[HIGHEST_CHARACTER + 1];
        private long anyRow = 0;
        private long anyOne = 0;
        private int length = 0;

        void read(Row row) {
            Arrays.fill(placesOf, 0L);
            anyRow = 0;
            anyOne = 0;
            length = 0;
            for (int k = 0; k < row.length(); k++) {
                // A * behind a * says nothing more, and without it one step leads over every *.
                if (k == 0 || row.at(k) != '*' || row.at(k - 1) != '*') {
                    readPart(row.at(k));
                }
            }
        }

        boolean fits(WordList words, int i) {
            long reached = overAnyRow(1L);
            int end = words.lengthOf(i);
            for (int k = 0; k < end && reached != 0; k++) {
                long passed = reached & (placesOf[words.at(i, k)] | anyOne);
                reached = overAnyRow((passed << 1) | (reached & anyRow));
            }
            return ((reached >>> length) & 1L) != 0;
        }

        private void readPart(int character) {
            long place = 1L << length;
            if (character == '*') {
                anyRow |= place;
            } else if (character == '?') {
                anyOne |= place;
            } else {
                placesOf[character] |= place;
            }
            length++;
        }

        /** A * may stand for an empty row. */
        private long overAnyRow(long reached) {
            return reached | ((reached & anyRow) << 1);
        }
    }

    /** Measures the DISTANCE from one row, the aim, to words. */
    private static final class Meter {
        /** Bit p of placesOf[c] is set if CHARACTER p of the aim is c. */
        private final long[] placesOf = new long[HIGHEST_CHARACTER + 1];
        /**
         * Bit p of reach[k][d] is set if the first p CHARACTERS of the aim are at most d steps away from the first k
         * of the word.
         */
        private final long[][] reach = new long[MAX_LENGTH + 1][MAX_DISTANCE + 1];
        private int aimLength = 0;

        Meter() {
            for (int d = 0; d <= MAX_DISTANCE; d++) {
                reach[0][d] = lowBits(d + 1);
            }
        }

        void aimAt(Row aim) {
            Arrays.fill(placesOf, 0L);
            aimLength = aim.length();
            for (int p = 0; p < aimLength; p++) {
                placesOf[aim.at(p)] |= 1L << p;
            }
        }

        /** The DISTANCE of word i, or -1 if it is more than most, which is 0 .. MAX_DISTANCE. */
        int stepsTo(WordList words, int i, int most) {
            int end = words.lengthOf(i);
            if (Math.abs(end - aimLength) > most) {
                return -1;
            }
            int last = 0;
            for (int k = 1; k <= end; k++) {
                int character = words.at(i, k - 1);
                extend(k, placesOf[character], placesOf[last], most);
                if (reach[k][most] == 0) {
                    return -1;
                }
                last = character;
            }
            return leastSteps(reach[end], most);
        }

        private void extend(int k, long same, long sameAsLast, int most) {
            long[] now = reach[k];
            long[] one = reach[k - 1];
            long aim = lowBits(aimLength + 1);
            now[0] = (one[0] & same) << 1;
            for (int d = 1; d <= most; d++) {
                long kept = (one[d] & same) << 1;
                long more = one[d - 1];
                long less = now[d - 1] << 1;
                long other = one[d - 1] << 1;
                now[d] = (kept | more | less | other | swapped(k, d, same, sameAsLast)) & aim;
            }
        }

        /** What is reached by two CHARACTERS changing places. */
        private long swapped(int k, int d, long same, long sameAsLast) {
            if (k < 2) {
                return 0;
            }
            long first = (reach[k - 2][d - 1] & same) << 1;
            return (first & sameAsLast) << 1;
        }

        private int leastSteps(long[] reached, int most) {
            for (int d = 0; d <= most; d++) {
                if (((reached[d] >>> aimLength) & 1L) != 0) {
                    return d;
                }
            }
            return -1;
        }

        private static long lowBits(int bits) {
            return (1L << bits) - 1;
        }
    }

    /** Chooses the nearest words when all of them have been measured. */
    private static final class Nearest {
        /** The DISTANCE of each word, -1 if it is not near. */
        private final byte[] steps = new byte[MAX_WORDS];
        private final int[] withSteps = new int[MAX_DISTANCE + 1];

        void clear() {
            Arrays.fill(withSteps, 0);
        }

        void note(int i, int distance) {
            steps[i] = (byte) distance;
            if (distance >= 0) {
                withSteps[distance]++;
            }
        }

        void moveTo(Result result, WordList words) {
            shareRoom();
            result.clear();
            for (int i = 0; i < words.size(); i++) {
                int distance = steps[i];
                if (distance >= 0 && withSteps[distance] > 0) {
                    withSteps[distance]--;
                    result.keep(words, i, distance);
                }
            }
        }

        /** Lowers each number of words to those that find room in RESULT, the nearest first. */
        private void shareRoom() {
            int room = MAX_FOUND;
            for (int d = 0; d <= MAX_DISTANCE; d++) {
                withSteps[d] = Math.min(withSteps[d], room);
                room -= withSteps[d];
            }
        }
    }
}
