/** Counts the calls of one test whose answer is not the one that is due. */
final class Due {
    interface Call {
        int answer();
    }

    private final String test;
    private int asked = 0;
    private int wrong = 0;

    Due(String test) {
        this.test = test;
    }

    void answer(String what, int want, Call call) {
        compare(what, Integer.toString(want), outcome(call));
    }

    void illegalArgument(String what, Call call) {
        compare(what, "throws.IllegalArgumentException", outcome(call));
    }

    void illegalState(String what, Call call) {
        compare(what, "throws.IllegalStateException", outcome(call));
    }

    void compare(String what, String want, String got) {
        asked++;
        if (!want.equals(got)) {
            wrong++;
            System.out.println(test + ": " + what + " answered " + got + ", due is " + want);
        }
    }

    // Every exception is an outcome here, so that one of the machine's is seen and counted.
    static String outcome(Call call) {
        try {
            return Integer.toString(call.answer());
        } catch (RuntimeException e) {
            return "throws." + e.getClass().getSimpleName();
        }
    }

    int wrongSoFar() {
        return wrong;
    }

    void end() {
        System.out.println(test + ": " + asked + " answers asked, " + wrong + " not as due");
        if (wrong != 0 || asked == 0) {
            System.exit(1);
        }
    }
}
