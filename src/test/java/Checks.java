/** Counts the answers of one test program and prints those that are not the ones due. */
final class Checks {
    static final String ARGUMENT = "throws.IllegalArgumentException";
    static final String INDEX = "throws.IndexOutOfBoundsException";
    static final String ELEMENT = "throws.NoSuchElementException";
    static final String OPERATION = "throws.UnsupportedOperationException";
    static final String STATE = "throws.IllegalStateException";
    static final String ARITHMETIC = "throws.ArithmeticException";

    /** A call whose answer is looked at. */
    interface Call {
        Object answer();
    }

    private String topic = "";
    private int right;
    private int wrong;

    /** The answer of a call as text; an exception is told by its own class alone. */
    static String told(Call call) {
        try {
            return String.valueOf(call.answer());
        } catch (RuntimeException e) {
            return "throws." + e.getClass().getSimpleName();
        }
    }

    /** Names what the next calls are made for; it stands ahead of each wrong answer. */
    void begin(String next) {
        topic = next + ": ";
    }

    int made() {
        return right + wrong;
    }

    void due(Object want, String what, Call call) {
        String got = told(call);
        if (got.equals(String.valueOf(want))) {
            right++;
        } else {
            fault(what + " answered " + got + ", due is " + want);
        }
    }

    void fault(String what) {
        wrong++;
        System.out.println(topic + what);
    }

    /** Ends the program, with exit code 1 if an answer was wrong. */
    void end() {
        System.out.println(right + " answers right, " + wrong + " wrong");
        if (wrong > 0 || right == 0) {
            System.exit(1);
        }
    }
}
