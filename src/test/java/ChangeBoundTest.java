/** Promises 1 to 9 at their bounds, each test with the sentence that it asks for ahead of it. */
public final class ChangeBoundTest {
    private static final int MAX = Integer.MAX_VALUE;
    private static final int MIN = Integer.MIN_VALUE;
    private static final int NONE = ModelMerge.NONE;
    private static final int LOCKED = ModelMerge.LOCKED;
    private static final int GONE = ModelMerge.GONE;
    private static final int FULL = ModelMerge.FULL;
    private static final Due due = new Due("ChangeBoundTest");

    public static void main(String[] args) {
        promise1VersionZeroAlone();
        promise2ItsNumberAndBase();
        promise2ThereAreTwenty();
        promise2ThereAreTwentyWhileOneIsPending();
        promise3SixtyThings();
        promise3SixtyMoments();
        promise3BothAtOnce();
        promise3NotOpen();
        promise4AlsoToWhatItIs();
        promise4Gone();
        promise4Locked();
        promise4Full();
        promise5Gone();
        promise5Locked();
        promise5Full();
        promise6NoneAtMomentZero();
        promise6FromTheLastMoment();
        promise7NoneBehindIt();
        promise8WhoHadLockedIt();
        promise8ThingsThatAreNotThere();
        promise8AllThings();
        promise9ItsNumber();
        promise9OfOneKindAlone();
        due.end();
    }

    // "Version 0 alone."
    private static void promise1VersionZeroAlone() {
        Run x = new Run(due, "a new object");
        x.gives(1, "count", 0).gives(0, "count", 1).gives(0, "count", 2).gives(0, "count", 3);
        x.gives(NONE, "differs", 0, 0, 0).gives(NONE, "broken", 0, 0);
        x.illegalArgument("author", 0).illegalArgument("author", 1);
        x.illegalArgument("session", 0, 1);
        x.illegalState("giveUp").illegalState("conflict", 0, 0).illegalState("settle", 0, 0);
        x.gives(0, "rule", 0, 0, 0).gives(0, "session", 0, 0).gives(0, "make", 0, 0);
    }

    // "A session of a person, from a version: its number."
    private static void promise2ItsNumberAndBase() {
        Run x = new Run(due, "sessions from all versions");
        x.gives(0, "session", 9, 0).gives(0, "make", 0, 0).gives(0, "join", 0);
        x.gives(1, "session", 0, 1).gives(1, "set", 1, 0, 0, 4).gives(0, "join", 1);
        x.illegalArgument("session", 0, 3).illegalArgument("session", 0, -1);
        x.gives(2, "session", 1, 0).gives(3, "session", 1, 1).gives(4, "session", 1, 2);
        x.gives(0, "here", 2, 0).gives(0, "now", 3, 0, 0).gives(4, "now", 4, 0, 0);
        x.gives(9, "told", 0, 1).gives(0, "told", 1, 1);
    }

    // "illegal state: there are 20", also when all of them are over.
    private static void promise2ThereAreTwenty() {
        Run x = new Run(due, "twenty sessions");
        for (int i = 0; i < 20; i++) {
            x.gives(i, "session", 9 - i % 10, 0);
        }
        x.illegalState("session", 0, 0);
        for (int i = 0; i < 20; i++) {
            x.gives(0, "join", i);
        }
        x.illegalState("session", 0, 0).illegalState("session", 0, 20);
        x.illegalArgument("session", 0, 21).illegalArgument("session", 10, 0);
        x.gives(20, "count", 2);
    }

    // A session may begin while another one is pending, up to the same bound.
    private static void promise2ThereAreTwentyWhileOneIsPending() {
        Run x = pending("twenty sessions while one is pending");
        for (int i = 3; i < 20; i++) {
            x.gives(i, "session", 0, i % 3).gives(i % 3, "told", i, 2);
        }
        x.illegalState("session", 0, 0);
        x.gives(1, "told", 2, 0).gives(2, "giveUp");
        x.illegalState("session", 0, 0);
    }

    // Session 2 is pending, with a conflict of field 0 of thing 0; there are versions 0 to 2.
    private static Run pending(String name) {
        Run x = new Run(due, name);
        x.does("session", 0, 0).does("make", 0, 0).does("make", 0, 0).does("join", 0);
        x.does("session", 1, 1).does("session", 2, 1);
        x.does("set", 1, 0, 0, 1).does("join", 1);
        x.does("set", 2, 0, 0, 2).does("set", 2, 1, 0, 3).does("undo", 2).gives(1, "join", 2);
        return x;
    }

    // "FULL: there are 60 things", wherever they were made, and whether they are there or not.
    private static void promise3SixtyThings() {
        Run x = new Run(due, "sixty things");
        x.does("session", 0, 0).does("session", 1, 0).does("session", 2, 0);
        for (int i = 0; i < 59; i++) {
            x.gives(i, "make", i % 2, 4);
        }
        x.gives(59, "make", 2, 0);
        x.refuses(FULL, "make", 0, 0).refuses(FULL, "make", 1, 0).refuses(FULL, "make", 2, 0);
        x.gives(0, "undo", 2).refuses(FULL, "make", 2, 0);
        x.gives(31, "drop", 0, 0).refuses(FULL, "make", 0, 0);
        x.gives(0, "join", 0).gives(0, "join", 1).does("session", 0, 2);
        x.refuses(FULL, "make", 3, 0);
        x.gives(1, "set", 3, 58, 0, 1).gives(60, "count", 1);
    }

    // "FULL: .. or the session has 60 moments": the other sessions have room.
    private static void promise3SixtyMoments() {
        Run x = new Run(due, "sixty moments");
        x.does("session", 0, 0).does("session", 0, 0);
        for (int i = 0; i < 59; i++) {
            x.gives(i, "make", 0, i % 5).gives(i + 1, "told", 0, 3);
        }
        x.refuses(FULL, "make", 0, 0);
        for (int moment = 58; moment >= 0; moment--) {
            x.gives(moment, "undo", 0);
        }
        x.refuses(FULL, "make", 0, 0);
        x.gives(60, "told", 0, 4).gives(59, "count", 1);
        x.gives(59, "make", 1, 0);
        x.refuses(FULL, "make", 1, 0);
    }

    // Sixty things and sixty moments at once.
    private static void promise3BothAtOnce() {
        Run x = new Run(due, "sixty things and sixty moments");
        x.does("session", 0, 0).does("session", 0, 0).gives(0, "make", 1, 0);
        for (int i = 1; i < 60; i++) {
            x.gives(i, "make", 0, 0);
        }
        x.refuses(FULL, "make", 0, 0).refuses(FULL, "make", 1, 0);
        x.gives(60, "told", 0, 4).gives(2, "told", 1, 4);
        x.gives(2, "set", 1, 0, 0, 1);
    }

    // "illegal state: the session is not OPEN", for make() and, as for make(), for promises 4 to 7.
    private static void promise3NotOpen() {
        Run x = pending("not open");
        for (int session : new int[] {0, 1, 2}) {
            x.illegalState("make", session, 0).illegalState("make", session, 4);
            x.illegalState("set", session, 0, 0, 1).illegalState("set", session, 1, 4, 1);
            x.illegalState("drop", session, 0).illegalState("drop", session, 1);
            x.illegalState("undo", session).illegalState("redo", session);
        }
        x.gives(2, "giveUp");
        x.wouldGive("2", "make", 2, 0).wouldGive("3", "set", 2, 0, 0, 1);
        x.wouldGive("3", "drop", 2, 0).wouldGive("0", "undo", 2).wouldGive("2", "redo", 2);
        x.gives(1, "join", 2).gives(0, "settle", 0, 0);
        x.illegalState("make", 2, 0).illegalState("undo", 2).illegalState("redo", 2);
    }

    // "A field is set in a session (also to what it is): the moment"
    private static void promise4AlsoToWhatItIs() {
        Run x = new Run(due, "set to what it is");
        x.does("session", 0, 0).does("make", 0, 0);
        x.gives(2, "set", 0, 0, 0, 0).gives(3, "set", 0, 0, 0, 0).gives(4, "told", 0, 4);
        x.gives(4, "set", 0, 0, 4, MIN).gives(5, "set", 0, 0, 4, MIN);
        x.gives(6, "set", 0, 0, 4, MAX).gives(5, "undo", 0).gives(MIN, "now", 0, 0, 4);
        x.gives(4, "undo", 0).gives(MIN, "now", 0, 0, 4);
        x.gives(3, "undo", 0).gives(0, "now", 0, 0, 4);
    }

    // Each way in which a thing is not there in a session: dropped, never there, its making
    // undone, dropped in the base, made elsewhere, made in a later version.
    private static Run gone(String name) {
        Run x = new Run(due, name);
        x.does("session", 0, 0).does("session", 0, 0);
        x.does("make", 0, 0).does("make", 0, 0).does("make", 0, 0);
        x.does("drop", 0, 1).does("join", 0);
        x.does("session", 0, 1).does("drop", 2, 0).does("make", 2, 0).does("undo", 2);
        x.does("make", 1, 0);
        return x;
    }

    // "GONE": it is not there.
    private static void promise4Gone() {
        Run x = gone("set, gone");
        x.refuses(GONE, "set", 2, 0, 0, 1).refuses(GONE, "set", 2, 1, 0, 1);
        x.refuses(GONE, "set", 2, 3, 4, 0).refuses(GONE, "set", 2, 4, 0, 1);
        x.refuses(GONE, "set", 1, 0, 0, 1).refuses(GONE, "set", 1, 1, 0, 1);
        x.illegalArgument("set", 2, 5, 0, 1).illegalArgument("set", 2, -1, 0, 1);
        x.gives(3, "set", 2, 2, 0, 1).gives(2, "set", 1, 4, 0, 1);
        x.gives(1, "undo", 2).gives(0, "undo", 2).gives(4, "set", 2, 0, 0, 1);
    }

    // "LOCKED": a lock of someone else.
    private static void promise4Locked() {
        Run x = new Run(due, "set, locked");
        x.does("session", 0, 0).does("make", 0, 0);
        for (int person = 1; person < 10; person++) {
            x.does("lock", 0, person).refuses(LOCKED, "set", 0, 0, 0, 1);
        }
        x.gives(9, "lock", 0, 0).gives(2, "set", 0, 0, 0, 1);
        x.gives(0, "lock", 0, 9).refuses(LOCKED, "set", 0, 0, 0, 2);
        x.gives(9, "lock", 0, NONE).gives(3, "set", 0, 0, 0, 2);
    }

    // "FULL": there are too many moments.
    private static void promise4Full() {
        Run x = new Run(due, "set, full");
        x.does("session", 0, 0).does("make", 0, 0);
        for (int moment = 2; moment < 60; moment++) {
            x.gives(moment, "set", 0, 0, moment % 5, moment);
        }
        x.refuses(FULL, "set", 0, 0, 0, 1).refuses(FULL, "set", 0, 0, 4, 59);
        x.gives(59, "now", 0, 0, 4).gives(60, "told", 0, 4);
    }

    // "as for set()"
    private static void promise5Gone() {
        Run x = gone("drop, gone");
        x.refuses(GONE, "drop", 2, 0).refuses(GONE, "drop", 2, 1).refuses(GONE, "drop", 2, 3);
        x.refuses(GONE, "drop", 2, 4).refuses(GONE, "drop", 1, 0).refuses(GONE, "drop", 1, 1);
        x.illegalArgument("drop", 2, 5).illegalArgument("drop", 2, -1);
        x.gives(3, "drop", 2, 2).refuses(GONE, "drop", 2, 2).gives(2, "drop", 1, 4);
        x.gives(1, "undo", 2).gives(0, "undo", 2).gives(4, "drop", 2, 0);
    }

    private static void promise5Locked() {
        Run x = new Run(due, "drop, locked");
        x.does("session", 9, 0).does("make", 0, 0);
        for (int person = 0; person < 9; person++) {
            x.does("lock", 0, person).refuses(LOCKED, "drop", 0, 0);
        }
        x.gives(8, "lock", 0, 9).gives(2, "drop", 0, 0).gives(1, "undo", 0);
        x.gives(9, "lock", 0, NONE).gives(3, "drop", 0, 0);
    }

    private static void promise5Full() {
        Run x = new Run(due, "drop, full");
        x.does("session", 0, 0);
        for (int thing = 0; thing < 30; thing++) {
            x.gives(thing, "make", 0, 0);
        }
        for (int thing = 0; thing < 29; thing++) {
            x.gives(31 + thing, "drop", 0, thing);
        }
        x.refuses(FULL, "drop", 0, 29).refuses(GONE, "drop", 0, 28);
        x.gives(1, "here", 0, 29).gives(60, "told", 0, 4);
    }

    // "NONE at moment 0"
    private static void promise6NoneAtMomentZero() {
        Run x = new Run(due, "undo at moment 0");
        x.does("session", 0, 0).refuses(NONE, "undo", 0);
        x.does("make", 0, 0).gives(0, "undo", 0).refuses(NONE, "undo", 0);
        x.does("make", 0, 0).gives(0, "undo", 0).refuses(NONE, "undo", 0);
        x.gives(0, "join", 0).does("session", 0, 1).refuses(NONE, "undo", 1);
    }

    // All the way from the last moment to the first, and up again.
    private static void promise6FromTheLastMoment() {
        Run x = new Run(due, "undo from moment 59");
        x.does("session", 0, 0).does("make", 0, 0);
        for (int moment = 2; moment < 60; moment++) {
            x.gives(moment, "set", 0, 0, 1, moment);
        }
        for (int moment = 58; moment > 1; moment--) {
            x.gives(moment, "undo", 0).gives(moment, "now", 0, 0, 1);
        }
        x.gives(1, "undo", 0).gives(0, "now", 0, 0, 1);
        x.gives(0, "undo", 0).gives(0, "here", 0, 0).refuses(NONE, "undo", 0);
        for (int moment = 1; moment < 60; moment++) {
            x.gives(moment, "redo", 0);
        }
        x.gives(59, "now", 0, 0, 1).refuses(NONE, "redo", 0);
    }

    // "NONE if there is none behind it", though there are later moments elsewhere in the tree.
    private static void promise7NoneBehindIt() {
        Run x = new Run(due, "redo with none behind");
        x.does("session", 0, 0).refuses(NONE, "redo", 0);
        x.does("make", 0, 0).refuses(NONE, "redo", 0);
        x.gives(2, "set", 0, 0, 0, 2).gives(1, "undo", 0).gives(3, "drop", 0, 0);
        x.refuses(NONE, "redo", 0);
        x.gives(1, "undo", 0).gives(4, "set", 0, 0, 0, 4).refuses(NONE, "redo", 0);
        x.gives(1, "undo", 0).gives(4, "redo", 0).refuses(NONE, "redo", 0);
        x.gives(0, "join", 0).does("session", 0, 1).refuses(NONE, "redo", 1);
    }

    // "A person locks a thing, or (NONE) it is locked no more: who had locked it, NONE."
    private static void promise8WhoHadLockedIt() {
        Run x = new Run(due, "lock");
        x.does("session", 0, 0).does("make", 0, 0).does("make", 0, 0);
        x.gives(NONE, "lock", 0, NONE).gives(NONE, "lock", 0, 0).gives(0, "lock", 0, 0);
        x.gives(0, "lock", 0, 9).gives(9, "lock", 0, 9).gives(9, "lock", 0, NONE);
        x.gives(NONE, "lock", 0, NONE).gives(NONE, "lock", 0, 9).gives(NONE, "lock", 1, 0);
        for (int person : new int[] {-2, 10, MIN, MAX}) {
            x.illegalArgument("lock", 0, person);
        }
        for (int thing : new int[] {-1, 2, 60, MIN, MAX}) {
            x.illegalArgument("lock", thing, 9).illegalArgument("lock", thing, NONE);
        }
        x.gives(9, "lock", 0, NONE).gives(0, "lock", 1, NONE);
    }

    // A thing whose number has been told may be locked, there or not; the lock stays with it.
    private static void promise8ThingsThatAreNotThere() {
        Run x = new Run(due, "lock of what is not there");
        x.does("session", 1, 0).does("make", 0, 0).does("undo", 0);
        x.gives(NONE, "lock", 0, 2).gives(1, "redo", 0);
        x.refuses(LOCKED, "set", 0, 0, 0, 1);
        x.gives(2, "lock", 0, 1).gives(2, "drop", 0, 0).gives(1, "lock", 0, 3);
        x.refuses(GONE, "set", 0, 0, 0, 1);
        x.gives(1, "undo", 0).refuses(LOCKED, "drop", 0, 0);
        x.gives(1, "make", 0, 0).gives(NONE, "lock", 1, NONE);
    }

    // Things 0 to 59 have a lock each.
    private static void promise8AllThings() {
        Run x = new Run(due, "sixty locks");
        x.does("session", 0, 0).does("session", 0, 0);
        for (int thing = 0; thing < 60; thing++) {
            x.gives(thing, "make", thing % 2, 0);
            x.gives(NONE, "lock", thing, thing % 10);
        }
        x.illegalArgument("lock", 60, 0).illegalArgument("lock", 60, NONE);
        for (int thing = 0; thing < 60; thing++) {
            x.gives(thing % 10, "lock", thing, NONE);
        }
    }

    // "A rule: its number. .. illegal state: there are 10."
    private static void promise9ItsNumber() {
        Run x = new Run(due, "ten rules");
        for (int i = 0; i < 9; i++) {
            x.gives(i, "rule", 4, 4, 0);
        }
        x.illegalArgument("rule", 5, 0, 0).illegalArgument("rule", 0, 5, 0);
        x.illegalArgument("rule", 0, 0, 5);
        x.gives(9, "rule", 0, 0, 4);
        x.illegalState("rule", 0, 0, 4);
        x.gives(10, "count", 3);
    }

    // Every number of a rule is in bounds by itself: the kind may be named by its own things.
    private static void promise9OfOneKindAlone() {
        Run x = new Run(due, "a rule of one kind");
        x.gives(0, "rule", 3, 0, 3).does("session", 0, 0);
        x.does("make", 0, 0).does("make", 0, 3).does("make", 0, 3);
        x.does("set", 0, 1, 0, 1).does("set", 0, 2, 0, 1).gives(0, "join", 0);
        x.gives(NONE, "broken", 1, 0);
        x.does("session", 0, 1).does("drop", 1, 1).gives(0, "join", 1);
        x.gives(2, "broken", 2, 0).gives(NONE, "broken", 2, 1);
    }
}
