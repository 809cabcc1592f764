/** Counts the calls of one test whose answer is not the one that is due. */
final class Due {
    interface Question {
        int answer();
    }

    private final String test;
    private int asked = 0;
    private int wrong = 0;

    Due(String test) {
        this.test = test;
    }

    void answer(String what, int want, Question question) {
        compare(what, Integer.toString(want), outcome(question));
    }

    void illegalArgument(String what, Question question) {
        compare(what, "throws.IllegalArgumentException", outcome(question));
    }

    void illegalState(String what, Question question) {
        compare(what, "throws.IllegalStateException", outcome(question));
    }

    void compare(String what, String want, String got) {
        asked++;
        if (!want.equals(got)) {
            wrong++;
            System.out.println(test + ": " + what + " answered " + got + ", due is " + want);
        }
    }

    // Every exception is an outcome here, so that one of the machine's is seen and counted.
    static String outcome(Question question) {
        try {
            return Integer.toString(question.answer());
        } catch (RuntimeException e) {
            return "throws." + e.getClass().getSimpleName();
        }
    }

    int wrongSoFar() {
        return wrong;
    }

    void end() {
        System.out.println(test + ": " + asked + " answers asked, " + wrong + " not as due");
        if (wrong != 0 || asked == 0) {
            System.exit(1);
        }
    }
}
