/** Counts the answers that are not as due, sentence by sentence, and ends the program with 1 if there was one. */
final class Check {
    static final String BAD = "IllegalArgumentException";
    static final String FULL = "IndexOutOfBoundsException";

    private String sentence = "";
    private int sentences = 0;
    private int madeForSentence = 0;
    private int made = 0;
    private int wrong = 0;

    interface Call {
        long answer();
    }

    /** The answers that follow are about this sentence of the document, or this part of one. */
    void sentence(String words) {
        endSentence();
        sentence = words;
        sentences++;
    }

    void due(String what, long want, long got) {
        due(what, Long.toString(want), Long.toString(got));
    }

    void due(String what, boolean want, boolean got) {
        due(what, Boolean.toString(want), Boolean.toString(got));
    }

    void due(String what, String want, String got) {
        made++;
        madeForSentence++;
        if (!want.equals(got)) {
            wrong++;
            System.out.println(place() + what + ": answered " + got + ", due is " + want);
        }
    }

    void bad(String what, Call call) {
        due(what, BAD, outcome(call));
    }

    void full(String what, Call call) {
        due(what, FULL, outcome(call));
    }

    /** The answer as a text, or the name of what was thrown, of exactly that class. */
    static String outcome(Call call) {
        try {
            return Long.toString(call.answer());
        } catch (RuntimeException e) {
            return e.getClass().getSimpleName();
        }
    }

    void end() {
        endSentence();
        System.out.println(sentences + " sentences, " + made + " answers, " + wrong + " not as due");
        if (wrong != 0 || made == 0) {
            System.exit(1);
        }
    }

    /** A sentence that nothing was asked about is as wrong as one that does not hold. */
    private void endSentence() {
        if (sentences > 0 && madeForSentence == 0) {
            wrong++;
            System.out.println(place() + "nothing was asked");
        }
        madeForSentence = 0;
    }

    private String place() {
        return sentence.isEmpty() ? "" : "\"" + sentence + "\" ";
    }
}
