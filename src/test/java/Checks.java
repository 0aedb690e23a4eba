/** Counts the answers of one test program and prints those that are not the ones due. */
final class Checks {
    /** A call whose answer is looked at. */
    interface Call {
        Object answer();
    }

    private int right;
    private int wrong;

    /** The answer of a call as text; an exception is told by its own class alone. */
    static String told(Call call) {
        try {
            return String.valueOf(call.answer());
        } catch (RuntimeException e) {
            return "throws." + e.getClass().getSimpleName();
        }
    }

    void due(Object want, String what, Call call) {
        String got = told(call);
        if (got.equals(String.valueOf(want))) {
            right++;
        } else {
            wrong++;
            System.out.println(what + " answered " + got + ", due is " + want);
        }
    }

    /** Ends the program, with exit code 1 if an answer was wrong. */
    void end() {
        System.out.println(right + " answers right, " + wrong + " wrong");
        if (wrong > 0 || right == 0) {
            System.exit(1);
        }
    }
}
