/** Counts the answers that are not as due, and ends the program with 1 if there was one. */
final class Check {
    static final String BAD = "IllegalArgumentException";
    static final String FULL = "IndexOutOfBoundsException";

    private int made = 0;
    private int wrong = 0;

    interface Call {
        long answer();
    }

    void due(String what, long want, long got) {
        due(what, Long.toString(want), Long.toString(got));
    }

    void due(String what, String want, String got) {
        made++;
        if (!want.equals(got)) {
            wrong++;
            System.out.println(what + ": answered " + got + ", due is " + want);
        }
    }

    void bad(String what, Call call) {
        due(what, BAD, outcome(call));
    }

    void full(String what, Call call) {
        due(what, FULL, outcome(call));
    }

    /** The answer as a text, or the name of what was thrown, of exactly that class. */
    static String outcome(Call call) {
        try {
            return Long.toString(call.answer());
        } catch (RuntimeException e) {
            return e.getClass().getSimpleName();
        }
    }

    void end() {
        System.out.println(made + " answers, " + wrong + " not as due");
        if (wrong != 0 || made == 0) {
            System.exit(1);
        }
    }
}
