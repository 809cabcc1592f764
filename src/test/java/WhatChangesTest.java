import java.util.ArrayList;
import java.util.Arrays;
import java.util.List;

/**
 * "Nothing is promised beyond the answers and state changes described above": what each call
 * changes of all that can be told of an object, and that the rest of it stays.
 */
public final class WhatChangesTest {
    private static final int NONE = ModelMerge.NONE;
    private static final int BUSY = ModelMerge.BUSY;
    private static final Due due = new Due("WhatChangesTest");

    public static void main(String[] args) {
        promise2Session(scene("session"));
        promise3Make(scene("make"));
        promise4Set(scene("set"));
        promise5Drop(scene("drop"));
        promises6And7UndoAndRedo(scene("undo and redo"));
        promise8Lock(scene("lock"));
        promise9Rule(scene("rule"));
        promise10Join(scene("join"));
        promise10JoinWithConflicts(scene("join with conflicts"));
        promise12Settle(scene("settle"));
        promise13GiveUp(scene("give up"));
        whileOneIsPending();
        due.end();
    }

    // Version 1 has things 0 (which names thing 1, as the rule wants), 1, and 2 (broken); in
    // version 2 a field of thing 0 is changed, and thing 2 is dropped. Sessions 0 and 1 are over.
    // Session 2, from version 1, stands at moment 3 of 4: it has changed that field of thing 0
    // (a conflict), thing 2 (another one), and thing 1. Session 3, from version 2, has no
    // conflicts. Person 1 has locked thing 0, and person 3 things 1 and 3.
    private static Run scene(String name) {
        Run x = new Run(due, name);
        x.does("rule", 0, 0, 1).does("session", 0, 0);
        x.does("make", 0, 0).does("make", 0, 1).does("make", 0, 0);
        x.does("set", 0, 0, 0, 1).does("set", 0, 0, 1, 5).gives(0, "join", 0);
        x.does("session", 1, 1).does("set", 1, 0, 1, 6).does("drop", 1, 2).gives(0, "join", 1);
        x.does("session", 2, 1).does("set", 2, 0, 1, 7).does("set", 2, 2, 4, 8);
        x.does("set", 2, 1, 3, 9).does("set", 2, 1, 3, 10).gives(3, "undo", 2);
        x.does("session", 3, 2).gives(3, "make", 3, 1).does("set", 3, 1, 2, 4);
        x.does("lock", 0, 1).does("lock", 1, 3).does("lock", 3, 3);
        return x;
    }

    private static List<String> questions(String... these) {
        return new ArrayList<>(Arrays.asList(these));
    }

    // A change makes a moment and goes there: how the session's tree is told is changed with it.
    private static List<String> newMoment(int session, String... more) {
        List<String> all = questions(more);
        all.add("told(" + session + ", 3)");
        all.add("told(" + session + ", 4)");
        all.add("undo(" + session + ")");
        all.add("redo(" + session + ")");
        return all;
    }

    // As soon as a session is pending, or none is any more, conflict() is answered otherwise.
    private static List<String> allConflicts(String... more) {
        List<String> all = questions(more);
        for (int k = 0; k < 60; k++) {
            for (int what = 0; what < 5; what++) {
                all.add("conflict(" + k + ", " + what + ")");
            }
        }
        return all;
    }

    private static void promise2Session(Run x) {
        for (int session = 4; session < 20; session++) {
            x.changes(questions("count(2)"), "session", session % 10, session % 3);
        }
    }

    private static void promise3Make(Run x) {
        x.changes(newMoment(3, "count(1)"), "make", 3, 0);
        x.changes(newMoment(3, "count(1)"), "make", 3, 1);
    }

    private static void promise4Set(Run x) {
        x.changes(newMoment(3, "now(3, 1, 2)"), "set", 3, 1, 2, 5);
        x.changes(newMoment(3), "set", 3, 1, 2, 5);
        x.changes(newMoment(3, "now(3, 3, 4)"), "set", 3, 3, 4, -1);
    }

    private static void promise5Drop(Run x) {
        List<String> gone = newMoment(3, "here(3, 1)");
        for (int field = 0; field < 5; field++) {
            gone.add("now(3, 1, " + field + ")");
        }
        x.changes(gone, "drop", 3, 1);
    }

    private static void promises6And7UndoAndRedo(Run x) {
        List<String> made = questions("told(3, 3)", "undo(3)", "here(3, 3)");
        for (int field = 0; field < 5; field++) {
            made.add("now(3, 3, " + field + ")");
        }
        List<String> set = questions("told(3, 3)", "undo(3)", "now(3, 1, 2)");
        x.changes(set, "undo", 3).changes(made, "undo", 3);
        x.changes(questions(), "undo", 3);
        x.changes(made, "redo", 3).changes(set, "redo", 3);
        x.changes(questions(), "redo", 3);
    }

    private static void promise8Lock(Run x) {
        x.changes(questions("lock(0, -1)"), "lock", 0, 9);
        x.changes(questions(), "lock", 0, 9);
        x.changes(questions("lock(0, -1)"), "lock", 0, NONE);
        x.changes(questions(), "lock", 0, NONE);
        x.changes(questions("lock(2, -1)"), "lock", 2, 0);
    }

    // The new rule is broken by things 0 and 2 in version 1, and by thing 0 in version 2.
    private static void promise9Rule(Run x) {
        List<String> broken = questions("broken(1, 1)", "broken(1, 2)", "broken(2, 0)");
        broken.add("count(3)");
        x.changes(broken, "rule", 0, 4, 1);
        x.changes(questions("count(3)"), "rule", 4, 4, 4);
    }

    // Locks stay, and so do the session's own state and moments, the other sessions and the
    // versions that were there.
    private static void promise10Join(Run x) {
        x.does("session", 3, 1).does("set", 4, 1, 0, 3);
        for (int session = 3; session < 5; session++) {
            List<String> over = questions("count(0)");
            over.add("told(" + session + ", 0)");
            over.add("told(" + session + ", 5)");
            over.add("undo(" + session + ")");
            over.add("redo(" + session + ")");
            x.changes(over, "join", session);
        }
    }

    private static void promise10JoinWithConflicts(Run x) {
        x.changes(allConflicts("told(2, 0)", "undo(2)", "redo(2)"), "join", 2);
    }

    // With the last one the version comes, and no session is pending any more.
    private static void promise12Settle(Run x) {
        x.gives(2, "join", 2);
        x.changes(questions("conflict(1, 4)"), "settle", 1, 1);
        x.changes(questions("conflict(1, 4)"), "settle", 1, 0);
        x.changes(questions(), "settle", 1, 0);
        x.changes(allConflicts("count(0)", "told(2, 0)", "told(2, 5)"), "settle", 0, 1);
    }

    private static void promise13GiveUp(Run x) {
        x.gives(2, "join", 2).gives(1, "settle", 0, 1);
        x.changes(allConflicts("told(2, 0)", "undo(2)", "redo(2)"), "giveUp");
        x.changes(allConflicts("told(2, 0)", "undo(2)", "redo(2)"), "join", 2);
    }

    // "While one is pending no other one joins": all else goes on, and leaves it alone.
    private static void whileOneIsPending() {
        promise2Session(pending("session while one is pending"));
        promise3Make(pending("make while one is pending"));
        promise4Set(pending("set while one is pending"));
        promise5Drop(pending("drop while one is pending"));
        promises6And7UndoAndRedo(pending("undo and redo while one is pending"));
        promise8Lock(pending("lock while one is pending"));
        promise9Rule(pending("rule while one is pending"));
        pending("join while one is pending").refuses(BUSY, "join", 3);
    }

    private static Run pending(String name) {
        return scene(name).gives(2, "join", 2).gives(1, "settle", 1, 1);
    }
}
