/**
 * "Of several exceptions the one named first is thrown, ahead of all answers below 0; a call that
 * throws changes nothing." Every two reasons of a call that can stand at once. (Run looks behind
 * each refused call at all that can be told of the object, and finds nothing changed.)
 */
public final class RefusalOrderTest {
    private static final int NONE = ModelMerge.NONE;
    private static final int LOCKED = ModelMerge.LOCKED;
    private static final int GONE = ModelMerge.GONE;
    private static final int FULL = ModelMerge.FULL;
    private static final int BUSY = ModelMerge.BUSY;
    private static final Due due = new Due("RefusalOrderTest");

    public static void main(String[] args) {
        sessionRefuses();
        makeRefusesForThings();
        makeRefusesForMoments();
        setAndDropRefuse();
        overRefuses();
        pendingRefuses();
        undoAndRedoRefuse();
        lockRefuses();
        ruleRefuses();
        joinRefuses();
        conflictAndSettleRefuse();
        tellingRefuses();
        due.end();
    }

    // Promise 2: illegal argument, illegal state.
    private static void sessionRefuses() {
        Run x = new Run(due, "session");
        for (int i = 0; i < 20; i++) {
            x.does("session", 0, 0);
        }
        x.illegalArgument("session", 10, 0).illegalArgument("session", -1, 0);
        x.illegalArgument("session", 0, 1).illegalArgument("session", 0, -1);
        x.illegalArgument("session", 10, 1);
        x.illegalState("session", 0, 0).illegalState("session", 9, 0);
    }

    // Promise 3: illegal argument, illegal state, FULL: there are 60 things.
    private static void makeRefusesForThings() {
        Run x = new Run(due, "make, 60 things");
        x.does("session", 0, 0).does("session", 0, 0).does("session", 0, 0);
        for (int i = 0; i < 60; i++) {
            x.does("make", i % 2, 0);
        }
        x.refuses(FULL, "make", 0, 0).refuses(FULL, "make", 2, 4);
        x.illegalArgument("make", 0, 5).illegalArgument("make", 0, -1);
        x.illegalArgument("make", 3, 0).illegalArgument("make", -1, 0);
        x.does("join", 0);
        x.illegalState("make", 0, 0);
        x.illegalArgument("make", 0, 5).illegalArgument("make", 0, -1);
        x.refuses(FULL, "make", 1, 0);
    }

    // Promise 3: FULL: the session has 60 moments.
    private static void makeRefusesForMoments() {
        Run x = fullOfMoments("make, 60 moments");
        x.refuses(FULL, "make", 0, 0).refuses(FULL, "make", 0, 4);
        x.illegalArgument("make", 0, 5).illegalArgument("make", 0, -1);
        x.does("join", 0);
        x.illegalState("make", 0, 0);
        x.illegalArgument("make", 0, 5);
        x.does("session", 0, 1).gives(2, "make", 1, 0);
    }

    // Session 0, of person 0, has 60 moments: things 0 and 1 are made, and thing 1 is dropped.
    private static Run fullOfMoments(String name) {
        Run x = new Run(due, name);
        x.does("session", 0, 0).does("make", 0, 0).does("make", 0, 0).does("drop", 0, 1);
        for (int moment = 4; moment < 60; moment++) {
            x.gives(moment, "set", 0, 0, 0, moment);
        }
        return x;
    }

    // Promises 4 and 5: "GONE, LOCKED, FULL (in this order)": each alone, and all that stand at
    // once; a wrong number is ahead of each.
    private static void setAndDropRefuse() {
        Run x = fullOfMoments("set and drop");
        setAndDrop(x, FULL, 0);
        setAndDrop(x, GONE, 1);
        x.does("lock", 0, 0).does("lock", 1, 0);
        setAndDrop(x, FULL, 0);
        setAndDrop(x, GONE, 1);
        x.does("lock", 0, 1).does("lock", 1, 1);
        setAndDrop(x, LOCKED, 0);
        setAndDrop(x, GONE, 1);

        Run y = new Run(due, "set and drop with room");
        y.does("session", 0, 0).does("make", 0, 0).does("make", 0, 0).does("drop", 0, 1);
        setAndDrop(y, GONE, 1);
        y.does("lock", 0, 9).does("lock", 1, 9);
        setAndDrop(y, LOCKED, 0);
        setAndDrop(y, GONE, 1);
        y.does("lock", 0, NONE);
        y.gives(4, "set", 0, 0, 0, 1).gives(5, "drop", 0, 0);
    }

    private static void setAndDrop(Run x, int want, int thing) {
        x.refuses(want, "set", 0, thing, 0, 1).refuses(want, "set", 0, thing, 4, 0);
        x.refuses(want, "drop", 0, thing);
        x.illegalArgument("set", 0, thing, 5, 1).illegalArgument("set", 0, thing, -1, 1);
        x.illegalArgument("set", 0, 2, 0, 1).illegalArgument("drop", 0, 2);
        x.illegalArgument("set", 1, thing, 0, 1).illegalArgument("drop", 1, thing);
    }

    // Promises 4 to 7: "illegal state: as for make()", in a session that is over.
    private static void overRefuses() {
        Run x = fullOfMoments("over");
        x.does("lock", 0, 1).does("lock", 1, 1).does("join", 0);
        notOpen(x, 0, 0);
        notOpen(x, 0, 1);
        x.does("lock", 0, NONE);
        notOpen(x, 0, 0);

        Run y = new Run(due, "over at moment 0");
        y.does("session", 0, 0).does("session", 0, 0).does("make", 1, 0).does("join", 0);
        notOpen(y, 0, 0);
    }

    // Whatever else would be answered below 0: the session is not open.
    private static void notOpen(Run x, int session, int thing) {
        x.illegalState("make", session, 0).illegalArgument("make", session, 5);
        x.illegalState("set", session, thing, 0, 1);
        x.illegalArgument("set", session, thing, 5, 1).illegalArgument("set", session, 60, 0, 1);
        x.illegalState("drop", session, thing).illegalArgument("drop", session, 60);
        x.illegalState("undo", session).illegalState("redo", session);
        x.illegalState("join", session);
    }

    // Sessions 1 (over), 2 (pending, with one conflict, of field 3 of thing 0) and 3 (open), from
    // version 1 with things 0 and 1.
    private static Run pending(String name) {
        Run x = new Run(due, name);
        x.does("session", 0, 0).does("make", 0, 0).does("make", 0, 0).does("join", 0);
        x.does("session", 1, 1).does("session", 2, 1).does("session", 3, 1);
        x.does("set", 1, 0, 3, 1).does("join", 1);
        x.does("drop", 2, 1).does("set", 2, 0, 3, 2).gives(1, "join", 2);
        return x;
    }

    private static void pendingRefuses() {
        Run x = pending("pending");
        notOpen(x, 2, 0);
        notOpen(x, 2, 1);
        x.does("lock", 0, 9).does("lock", 1, 9);
        notOpen(x, 2, 0);
        notOpen(x, 2, 1);
    }

    // Promises 6 and 7: NONE changes nothing, and a wrong session is ahead of it.
    private static void undoAndRedoRefuse() {
        Run x = new Run(due, "undo and redo");
        x.illegalArgument("undo", 0).illegalArgument("redo", 0);
        x.does("session", 0, 0);
        x.refuses(NONE, "undo", 0).refuses(NONE, "redo", 0);
        x.illegalArgument("undo", 1).illegalArgument("redo", 1);
        x.does("make", 0, 0);
        x.refuses(NONE, "redo", 0);
        x.gives(0, "undo", 0);
        x.refuses(NONE, "undo", 0);
        x.gives(1, "redo", 0);
    }

    // Promise 8: illegal argument alone; the lock stays as it is.
    private static void lockRefuses() {
        Run x = new Run(due, "lock");
        x.illegalArgument("lock", 0, NONE).illegalArgument("lock", 0, 0);
        x.does("session", 0, 0).does("make", 0, 0).does("lock", 0, 4);
        x.illegalArgument("lock", 0, -2).illegalArgument("lock", 0, 10);
        x.illegalArgument("lock", 1, 4).illegalArgument("lock", 1, NONE);
        x.gives(4, "lock", 0, NONE);
    }

    // Promise 9: illegal argument, illegal state. Thing 0 keeps the ten rules, and thing 1 breaks
    // every rule that a refused call could bring.
    private static void ruleRefuses() {
        Run x = new Run(due, "rule");
        x.does("session", 0, 0).does("make", 0, 0).does("make", 0, 4).does("set", 0, 1, 4, NONE);
        x.does("join", 0);
        for (int i = 0; i < 10; i++) {
            x.gives(i, "rule", 0, 0, 0);
        }
        x.gives(NONE, "broken", 1, 0);
        x.illegalState("rule", 4, 4, 4).illegalState("rule", 0, 0, 4);
        for (int wrong : new int[] {-1, 5}) {
            x.illegalArgument("rule", wrong, 0, 0);
            x.illegalArgument("rule", 0, wrong, 0);
            x.illegalArgument("rule", 0, 0, wrong);
        }
    }

    // Promise 10: illegal argument, illegal state, BUSY. FULL is out of reach: twenty sessions
    // join once each, so there are never more than 21 versions of the 40.
    private static void joinRefuses() {
        Run x = pending("join");
        x.refuses(BUSY, "join", 3);
        x.illegalState("join", 0).illegalState("join", 1).illegalState("join", 2);
        x.illegalArgument("join", 4).illegalArgument("join", -1);
        x.gives(2, "giveUp");
        x.illegalState("join", 0).illegalState("join", 1);
        x.illegalArgument("join", 4);
        x.gives(0, "join", 3);
    }

    // Promises 11 and 12: illegal argument, illegal state. How many conflicts there are is a bound
    // of the pending session alone: while there is none, a k of 0 or more is not out of bounds,
    // and the state is what is wrong; a k below 0, a what or a side is out of bounds always.
    private static void conflictAndSettleRefuse() {
        Run x = new Run(due, "conflict and settle on a new object");
        nothingPending(x);
        Run y = pending("conflict and settle");
        for (int k : new int[] {-1, 1, Integer.MIN_VALUE, Integer.MAX_VALUE}) {
            y.illegalArgument("conflict", k, 0).illegalArgument("conflict", k, 5);
            y.illegalArgument("settle", k, 0).illegalArgument("settle", k, 2);
        }
        y.illegalArgument("conflict", 0, 5).illegalArgument("conflict", 0, -1);
        y.illegalArgument("settle", 0, 2).illegalArgument("settle", 0, -1);
        y.does("giveUp");
        nothingPending(y);
        y.does("join", 2).gives(0, "settle", 0, 0);
        nothingPending(y);
    }

    private static void nothingPending(Run x) {
        for (int k : new int[] {0, 1, Integer.MAX_VALUE}) {
            x.illegalState("conflict", k, 0).illegalState("conflict", k, 4);
            x.illegalState("settle", k, 0).illegalState("settle", k, 1);
            x.illegalArgument("conflict", k, 5).illegalArgument("conflict", k, -1);
            x.illegalArgument("settle", k, 2).illegalArgument("settle", k, -1);
        }
        x.illegalArgument("conflict", -1, 0).illegalArgument("settle", -1, 0);
        x.illegalState("giveUp");
    }

    // Promises 14 to 23 throw IllegalArgumentException alone, also where they could answer NONE.
    private static void tellingRefuses() {
        Run x = pending("telling");
        x.illegalArgument("differs", 2, 3, 0).illegalArgument("differs", 3, 2, 0);
        x.illegalArgument("differs", 1, 1, -1).illegalArgument("differs", 3, 3, -1);
        x.illegalArgument("broken", 3, 0).illegalArgument("broken", 2, -1);
        x.illegalArgument("told", 4, 5).illegalArgument("told", 2, 6);
        x.illegalArgument("here", 2, 2).illegalArgument("here", 4, 0);
        x.illegalArgument("now", 2, 1, 0).illegalArgument("now", 2, 1, 5);
    }
}
