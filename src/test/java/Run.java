import java.util.ArrayList;
import java.util.List;
import java.util.Map;
import java.util.TreeSet;

/** Calls in a row on one new object, and what is due of each. */
final class Run {
    static final int MOST_CALLS = 512;
    static final String ARGUMENT = "throws.IllegalArgumentException";
    static final String STATE = "throws.IllegalStateException";

    private final Due due;
    private final String name;
    private final ModelMerge model = new ModelMerge();
    // The calls that changed something, to be played again.
    private final List<Call> kept = new ArrayList<>();
    private List<String> whole = null;
    private int calls = 0;

    Run(Due due, String name) {
        this.due = due;
        this.name = name;
    }

    /** A call that only leads to what is asked: it has to be answered, whatever the answer is. */
    Run does(String call, int... arguments) {
        Call asked = new Call(call, arguments);
        String got = outcome(asked);
        if (got.startsWith("throws") || Integer.parseInt(got) < ModelMerge.NONE) {
            compare(asked, "an answer", got);
        }
        keep(asked);
        return this;
    }

    Run gives(int want, String call, int... arguments) {
        Call asked = new Call(call, arguments);
        compare(asked, Integer.toString(want), outcome(asked));
        keep(asked);
        return this;
    }

    /**
     * A call that is answered, and what is told otherwise behind it than ahead of it: these
     * questions and no others. (What is asked on one side of it alone is left out.)
     */
    Run changes(List<String> questions, String call, int... arguments) {
        Call asked = new Call(call, arguments);
        Map<String, String> before = Whole.answers(whole());
        does(call, arguments);
        Map<String, String> behind = Whole.answers(whole());
        TreeSet<String> changed = new TreeSet<>();
        for (String question : before.keySet()) {
            String now = behind.get(question);
            if (now != null && !before.get(question).equals(now)) {
                changed.add(question);
            }
        }
        compare(asked, "changes " + new TreeSet<>(questions), "changes " + changed);
        return this;
    }

    /** A call that is answered with one of the numbers below 0, and changes nothing. */
    Run refuses(int want, String call, int... arguments) {
        return refused(Integer.toString(want), new Call(call, arguments));
    }

    /** A call that throws IllegalArgumentException, and changes nothing. */
    Run illegalArgument(String call, int... arguments) {
        return refused(ARGUMENT, new Call(call, arguments));
    }

    /** A call that throws IllegalStateException, and changes nothing. */
    Run illegalState(String call, int... arguments) {
        return refused(STATE, new Call(call, arguments));
    }

    /** What is due of a call on another object behind the same calls: this one is left alone. */
    Run wouldGive(String want, String call, int... arguments) {
        Call asked = new Call(call, arguments);
        compare(asked, want, asked.outcome(Whole.played(kept)));
        return this;
    }

    private Run refused(String want, Call asked) {
        compare(asked, want, outcome(asked));
        List<Call> with = new ArrayList<>(kept);
        with.add(asked);
        compareWhole(asked, whole(), Whole.behind(with));
        return this;
    }

    private List<String> whole() {
        if (whole == null) {
            whole = Whole.behind(kept);
        }
        return whole;
    }

    private void compareWhole(Call asked, List<String> before, List<String> behind) {
        String changed = "nothing";
        for (int i = 0; i < before.size() && changed.equals("nothing"); i++) {
            if (i >= behind.size() || !before.get(i).equals(behind.get(i))) {
                changed = before.get(i);
            }
        }
        due.compare(name + ": what " + asked + " changed", "nothing", changed);
    }

    private void keep(Call asked) {
        if (asked.isChanging()) {
            kept.add(asked);
            whole = null;
        }
    }

    private String outcome(Call asked) {
        calls++;
        if (calls > MOST_CALLS) {
            throw new IllegalStateException(name + ": the run has more than 512 calls");
        }
        return asked.outcome(model);
    }

    private void compare(Call asked, String want, String got) {
        due.compare(name + ", call " + calls + ": " + asked, want, got);
    }
}
