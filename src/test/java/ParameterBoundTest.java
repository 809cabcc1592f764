/**
 * "In all calls illegal argument: a number is out of its bounds, there is no such thing (of numbers
 * told), session, version." Of every parameter of every call: the first and the last number that
 * are in bounds, with their answers, and the ones beside them that are not.
 */
public final class ParameterBoundTest {
    private static final int MAX = Integer.MAX_VALUE;
    private static final int MIN = Integer.MIN_VALUE;
    private static final String ARGUMENT = Run.ARGUMENT;
    private static final String STATE = Run.STATE;
    private static final String NONE = "-1";
    private static final String GONE = "-3";
    private static final String FULL = "-4";
    private static final Due due = new Due("ParameterBoundTest");

    private static Run x;

    public static void main(String[] args) {
        nothingThereYet();
        changingCalls();
        joiningCalls();
        tellingCalls();
        tellingCallsOfVersions();
        fullOfThingsAndSessions();
        fullOfVersions();
        due.end();
    }

    // Asks with one number in the place of 'at': at both ends, and beside them.
    private static void ends(int at, int low, String atLow, int high, String atHigh, Call call) {
        with(at, low, atLow, call);
        with(at, high, atHigh, call);
        for (int wrong : new int[] {low - 1, high + 1, MIN, MAX}) {
            x.illegalArgument(call.name(), replaced(at, wrong, call));
        }
    }

    private static void with(int at, int number, String want, Call call) {
        x.wouldGive(want, call.name(), replaced(at, number, call));
    }

    private static int[] replaced(int at, int number, Call call) {
        int[] arguments = call.arguments().clone();
        arguments[at] = number;
        return arguments;
    }

    private static Call call(String name, int... arguments) {
        return new Call(name, arguments);
    }

    // A new object has neither session nor thing nor version 1, so no number is in bounds.
    private static void nothingThereYet() {
        x = new Run(due, "nothing there yet");
        for (int none : new int[] {-1, 0, 1, 19, 20, 59, 60, MAX, MIN}) {
            x.illegalArgument("make", none, 0);
            x.illegalArgument("set", none, 0, 0, 0);
            x.illegalArgument("drop", none, 0);
            x.illegalArgument("undo", none);
            x.illegalArgument("redo", none);
            x.illegalArgument("lock", none, 0);
            x.illegalArgument("lock", none, ModelMerge.NONE);
            x.illegalArgument("join", none);
            x.illegalArgument("here", none, 0);
            x.illegalArgument("now", none, 0, 0);
            x.illegalArgument("there", 0, none, 0);
            x.illegalArgument("there", 0, none, 1);
            x.illegalArgument("at", 0, none, 0);
            x.illegalArgument("since", 0, none, 0);
            x.illegalArgument("told", none, 0);
            x.illegalArgument("author", none);
        }
        for (int version : new int[] {-1, 1, 39, 40, MAX, MIN}) {
            x.illegalArgument("session", 0, version);
            x.illegalArgument("differs", 0, version, 0);
            x.illegalArgument("differs", version, 0, 0);
            x.illegalArgument("broken", version, 0);
        }
        x.gives(0, "session", 0, 0);
        x.illegalArgument("here", 0, 0);
        x.illegalArgument("set", 0, 0, 0, 0);
        x.illegalArgument("drop", 0, 0);
    }

    // Versions 0 to 2, things 0 to 2, and sessions 0 and 1 (over), 2 (pending, with conflicts of
    // fields 0 and 4 of thing 0), 3 (open, at moment 1 of three).
    private static Run small(String name) {
        Run run = new Run(due, name);
        run.does("session", 0, 0).does("make", 0, 1).does("make", 0, 2).does("make", 0, 4);
        run.does("set", 0, 2, 4, 8).does("join", 0);
        run.does("session", 1, 1).does("session", 2, 1).does("session", 9, 1);
        run.does("set", 1, 0, 0, 5).does("set", 1, 0, 4, 6).does("join", 1);
        run.does("set", 2, 0, 0, 7).does("set", 2, 0, 4, 9).gives(2, "join", 2);
        run.does("set", 3, 2, 0, 3).does("set", 3, 2, 1, 4).does("undo", 3);
        return run;
    }

    private static void changingCalls() {
        x = small("small, changing");
        ends(0, 0, "4", 9, "4", call("session", 0, 2));
        ends(1, 0, "4", 2, "4", call("session", 0, 0));
        ends(0, 0, STATE, 3, "3", call("make", 0, 0));
        ends(1, 0, "3", 4, "3", call("make", 3, 0));
        ends(0, 0, STATE, 3, "3", call("set", 0, 0, 0, 1));
        ends(1, 0, "3", 2, "3", call("set", 3, 0, 0, 1));
        ends(2, 0, "3", 4, "3", call("set", 3, 0, 0, 1));
        with(3, MIN, "3", call("set", 3, 0, 0, 1));
        with(3, MAX, "3", call("set", 3, 0, 0, 1));
        ends(0, 0, STATE, 3, "3", call("drop", 0, 0));
        ends(1, 0, "3", 2, "3", call("drop", 3, 0));
        ends(0, 0, STATE, 3, "0", call("undo", 0));
        ends(0, 0, STATE, 3, "2", call("redo", 0));
        ends(0, 0, NONE, 2, NONE, call("lock", 0, 0));
        // NONE stands for nobody, so -1 is the first person that is in bounds here.
        ends(1, -1, NONE, 9, NONE, call("lock", 0, 0));
        ends(0, 0, "0", 4, "0", call("rule", 0, 0, 0));
        ends(1, 0, "0", 4, "0", call("rule", 0, 0, 0));
        ends(2, 0, "0", 4, "0", call("rule", 0, 0, 0));
    }

    private static void joiningCalls() {
        x = small("small, joining");
        ends(0, 0, STATE, 3, "-5", call("join", 0));
        ends(0, 0, "0", 1, "0", call("conflict", 0, 0));
        ends(1, 0, "0", 4, NONE, call("conflict", 1, 0));
        ends(0, 0, "1", 1, "1", call("settle", 0, 0));
        ends(1, 0, "1", 1, "1", call("settle", 0, 0));
    }

    private static void tellingCalls() {
        x = small("small, telling of sessions");
        ends(0, 0, "1", 3, "1", call("here", 0, 0));
        ends(1, 0, "1", 2, "1", call("here", 0, 0));
        ends(0, 0, "0", 3, "3", call("now", 0, 2, 0));
        ends(1, 0, "0", 2, "3", call("now", 3, 0, 0));
        ends(2, 0, "3", 4, "8", call("now", 3, 2, 0));
        ends(0, 0, "0", 3, "9", call("told", 0, 1));
        ends(1, 0, "2", 5, "1", call("told", 0, 0));
        ends(0, 0, "3", 3, "0", call("count", 0));
    }

    private static void tellingCallsOfVersions() {
        x = small("small, telling of versions");
        ends(0, 0, "0", 2, "1", call("there", 0, 0, 0));
        ends(1, 0, "1", 2, "1", call("there", 2, 0, 0));
        ends(2, 0, "1", 2, "2", call("there", 2, 0, 0));
        // Nothing is there in version 0, so that the thing is the illegal argument there.
        ends(0, 1, "0", 2, "5", call("at", 0, 0, 0));
        ends(1, 0, "5", 2, "0", call("at", 2, 0, 0));
        ends(2, 0, "5", 4, "6", call("at", 2, 0, 0));
        ends(0, 1, "1", 2, "2", call("since", 0, 0, 0));
        ends(1, 0, "2", 2, "1", call("since", 2, 0, 0));
        ends(2, 0, "2", 4, "2", call("since", 2, 0, 0));
        ends(0, 1, "0", 2, "1", call("author", 0));
        ends(0, 0, "0", 2, NONE, call("differs", 0, 2, 0));
        ends(1, 0, "0", 2, NONE, call("differs", 2, 0, 0));
        ends(0, 0, NONE, 2, NONE, call("broken", 0, 0));
        // k has no last number: beyond the last difference or broken thing the answer is NONE.
        for (int below : new int[] {-1, MIN}) {
            x.illegalArgument("differs", 1, 2, below);
            x.illegalArgument("broken", 2, below);
        }
        x.gives(0, "differs", 1, 2, 0).gives(4, "differs", 1, 2, 1);
        x.gives(-1, "differs", 1, 2, 2).gives(-1, "differs", 1, 2, MAX);
        x.gives(-1, "broken", 2, MAX);
    }

    // Twenty sessions, and sixty things, made by sessions 18 and 19 in turn; session 18 has joined.
    private static void fullOfThingsAndSessions() {
        x = new Run(due, "full of things and sessions");
        for (int i = 0; i < 20; i++) {
            x.gives(i, "session", i % 10, 0);
        }
        for (int i = 0; i < 60; i++) {
            x.gives(i, "make", 18 + i % 2, i % 5);
        }
        x.does("join", 18);
        ends(0, 0, FULL, 19, FULL, call("make", 0, 0));
        ends(0, 0, GONE, 19, "31", call("set", 0, 59, 4, 7));
        ends(1, 0, GONE, 59, "31", call("set", 19, 0, 4, 7));
        ends(0, 0, GONE, 19, "31", call("drop", 0, 59));
        ends(1, 0, GONE, 59, "31", call("drop", 19, 0));
        ends(0, 0, NONE, 19, "29", call("undo", 0));
        ends(0, 0, NONE, 19, NONE, call("redo", 0));
        ends(0, 0, NONE, 59, NONE, call("lock", 0, 9));
        ends(0, 0, "0", 19, "0", call("join", 0));
        ends(0, 0, "0", 19, "1", call("here", 0, 59));
        ends(1, 0, "0", 59, "1", call("here", 19, 0));
        ends(0, 0, ARGUMENT, 19, "0", call("now", 0, 59, 4));
        ends(1, 0, ARGUMENT, 59, "0", call("now", 19, 0, 4));
        ends(1, 0, "1", 59, "0", call("there", 1, 0, 0));
        ends(1, 0, "0", 59, "4", call("there", 0, 0, 1));
        ends(1, 0, "0", 59, ARGUMENT, call("at", 1, 0, 4));
        ends(1, 0, "1", 59, ARGUMENT, call("since", 1, 0, 4));
        ends(0, 0, "0", 19, "9", call("told", 0, 1));
    }

    // Twenty sessions join once each: version 20 is the last one that can come, and 40 versions
    // cannot be reached. So 21 to 39 are out of bounds in every run.
    private static void fullOfVersions() {
        x = new Run(due, "full of versions");
        for (int i = 0; i < 20; i++) {
            x.gives(i, "session", 0, 0).does("make", i, 1).gives(0, "join", i);
        }
        x.gives(21, "count", 0);
        ends(0, 0, STATE, 19, STATE, call("join", 0));
        ends(1, 0, STATE, 20, STATE, call("session", 0, 0));
        ends(0, 0, "0", 20, "1", call("there", 0, 19, 0));
        ends(0, 1, "0", 20, "0", call("at", 0, 0, 0));
        ends(0, 1, "1", 20, "1", call("since", 0, 0, 0));
        ends(0, 1, "0", 20, "19", call("author", 0));
        ends(0, 0, "0", 20, NONE, call("differs", 0, 20, 0));
        ends(1, 0, "0", 20, NONE, call("differs", 20, 0, 0));
        ends(0, 0, NONE, 20, NONE, call("broken", 0, 0));
        x.illegalArgument("author", 39).illegalArgument("author", 40);
        x.illegalArgument("at", 39, 0, 0).illegalArgument("at", 40, 0, 0);
    }
}
