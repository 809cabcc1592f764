/** Promises 1 to 7: a new object, session, make, set, drop, undo, redo. */
public final class ChangeTest {
    private static final int MAX = Integer.MAX_VALUE;
    private static final int MIN = Integer.MIN_VALUE;
    private static final Due due = new Due("ChangeTest");

    public static void main(String[] args) {
        promise1NewObject();
        promise2Session();
        promise2TwentySessions();
        promise3Make();
        promise3SixtyThings();
        promise3SixtyMoments();
        promise4Set();
        promise4OrderOfRefusals();
        promise5Drop();
        promise5OrderOfRefusals();
        promise6Undo();
        promise7Redo();
        changesWantAnOpenSession();
        aCallThatThrowsChangesNothing();
        due.end();
    }

    private static void promise1NewObject() {
        ModelMerge x = new ModelMerge();
        due.answer("new: versions", 1, () -> x.count(0));
        due.answer("new: things", 0, () -> x.count(1));
        due.answer("new: sessions", 0, () -> x.count(2));
        due.answer("new: rules", 0, () -> x.count(3));
        due.answer("new: differs", ModelMerge.NONE, () -> x.differs(0, 0, 0));
        due.answer("new: broken", ModelMerge.NONE, () -> x.broken(0, 0));
        due.illegalArgument("new: no version 1", () -> x.session(0, 1));
        due.illegalArgument("new: no thing 0", () -> x.there(0, 0, 0));
        due.illegalArgument("new: no session 0", () -> x.told(0, 0));
        due.illegalState("new: nothing pending", x::giveUp);
    }

    private static void promise2Session() {
        ModelMerge x = new ModelMerge();
        due.answer("session 0", 0, () -> x.session(9, 0));
        due.answer("session 1", 1, () -> x.session(0, 0));
        due.answer("same person again", 2, () -> x.session(0, 0));
        due.answer("its person", 9, () -> x.told(0, 1));
        x.make(0, 0);
        x.join(0);
        due.answer("from version 1", 3, () -> x.session(4, 1));
        due.answer("its base", 1, () -> x.told(3, 2));
        due.answer("sees its base", 1, () -> x.here(3, 0));
        due.answer("an older base sees none", 0, () -> x.here(1, 0));
        due.answer("from an older version still", 4, () -> x.session(4, 0));
        due.answer("sees that base", 0, () -> x.here(4, 0));
        for (int person : new int[] {-1, 10, MAX, MIN}) {
            due.illegalArgument("session of person " + person, () -> x.session(person, 0));
        }
        for (int version : new int[] {-1, 2, 39, 40, MAX, MIN}) {
            due.illegalArgument("session from version " + version, () -> x.session(0, version));
        }
        due.answer("none of these counts", 5, () -> x.count(2));
    }

    private static void promise2TwentySessions() {
        ModelMerge x = new ModelMerge();
        for (int i = 0; i < 20; i++) {
            int number = i;
            due.answer("session " + i, number, () -> x.session(number % 10, 0));
        }
        due.illegalState("session 21", () -> x.session(0, 0));
        due.illegalArgument("session 21 of person 10", () -> x.session(10, 0));
        due.illegalArgument("session 21 from version 1", () -> x.session(0, 1));
        due.answer("twenty are counted", 20, () -> x.count(2));
        due.answer("the last one works", 0, () -> x.make(19, 0));
        for (int i = 0; i < 20; i++) {
            int number = i;
            due.answer("session " + i + " joins", 0, () -> x.join(number));
        }
        // Each session joins once, so 20 sessions leave 21 versions: 40 are out of reach.
        due.answer("versions", 21, () -> x.count(0));
        due.illegalState("a session that is over keeps its number", () -> x.session(0, 20));
    }

    private static void promise3Make() {
        ModelMerge x = new ModelMerge();
        x.session(0, 0);
        x.session(1, 0);
        due.answer("make", 0, () -> x.make(0, 4));
        due.answer("make elsewhere", 1, () -> x.make(1, 0));
        due.answer("make again", 2, () -> x.make(0, 2));
        due.answer("kind", 4, () -> x.there(0, 0, 1));
        due.answer("there in its session", 1, () -> x.here(0, 0));
        due.answer("not in another one", 0, () -> x.here(1, 0));
        for (int i = 0; i < 5; i++) {
            int field = i;
            due.answer("field " + i + " is 0", 0, () -> x.now(0, 2, field));
        }
        due.answer("a moment each", 3, () -> x.told(0, 4));
        due.answer("stands at the last", 2, () -> x.told(0, 3));
        x.undo(0);
        due.answer("a number is not used again", 3, () -> x.make(0, 1));
        for (int kind : new int[] {-1, 5, MAX, MIN}) {
            due.illegalArgument("make of kind " + kind, () -> x.make(0, kind));
        }
        for (int session : new int[] {-1, 2, 20, MAX, MIN}) {
            due.illegalArgument("make in session " + session, () -> x.make(session, 0));
        }
        due.answer("no number is lost", 4, () -> x.make(0, 0));
    }

    private static void promise3SixtyThings() {
        ModelMerge x = new ModelMerge();
        x.session(0, 0);
        x.session(1, 0);
        for (int i = 0; i < 60; i++) {
            int number = i;
            due.answer("make " + i, number, () -> x.make(number % 2, number % 5));
        }
        due.answer("a 61st thing", ModelMerge.FULL, () -> x.make(0, 0));
        due.answer("no moment for it", 31, () -> x.told(0, 4));
        due.answer("sixty are counted", 60, () -> x.count(1));
        due.illegalArgument("there is no thing 60", () -> x.here(0, 60));
        due.illegalArgument("a wrong kind is ahead of FULL", () -> x.make(0, 5));
        due.answer("the last one is set", 31, () -> x.set(1, 59, 4, MIN));
        due.answer("and read", MIN, () -> x.now(1, 59, 4));
        x.join(0);
        due.illegalState("not open is ahead of FULL", () -> x.make(0, 0));
    }

    private static void promise3SixtyMoments() {
        ModelMerge x = new ModelMerge();
        x.session(0, 0);
        x.session(0, 0);
        x.make(0, 0);
        for (int i = 2; i < 60; i++) {
            int moment = i;
            due.answer("set " + i, moment, () -> x.set(0, 0, 0, moment));
        }
        due.answer("sixty moments", 60, () -> x.told(0, 4));
        due.answer("make beyond", ModelMerge.FULL, () -> x.make(0, 0));
        due.answer("set beyond", ModelMerge.FULL, () -> x.set(0, 0, 0, 1));
        due.answer("drop beyond", ModelMerge.FULL, () -> x.drop(0, 0));
        due.answer("it stands where it stood", 59, () -> x.told(0, 3));
        due.answer("as it was", 59, () -> x.now(0, 0, 0));
        due.answer("no thing was made", 1, () -> x.count(1));
        due.answer("undo frees no moment", 58, () -> x.undo(0));
        due.answer("still full", ModelMerge.FULL, () -> x.set(0, 0, 0, 1));
        due.answer("redo still goes", 59, () -> x.redo(0));
        due.answer("another session is not full", 1, () -> x.make(1, 0));
    }

    private static void promise4Set() {
        ModelMerge x = new ModelMerge();
        x.session(0, 0);
        x.make(0, 0);
        x.make(0, 0);
        due.answer("set", 3, () -> x.set(0, 0, 0, MAX));
        due.answer("set to what it is", 4, () -> x.set(0, 0, 0, MAX));
        due.answer("set the last field", 5, () -> x.set(0, 1, 4, MIN));
        due.answer("set to -1", 6, () -> x.set(0, 1, 3, -1));
        due.answer("reads it", MAX, () -> x.now(0, 0, 0));
        due.answer("reads the last one", MIN, () -> x.now(0, 1, 4));
        due.answer("reads -1", -1, () -> x.now(0, 1, 3));
        due.answer("not the next field", 0, () -> x.now(0, 0, 1));
        due.answer("not the other thing", 0, () -> x.now(0, 1, 0));
        for (int field : new int[] {-1, 5, MAX, MIN}) {
            due.illegalArgument("set field " + field, () -> x.set(0, 0, field, 0));
        }
        for (int thing : new int[] {-1, 2, 59, 60, MAX, MIN}) {
            due.illegalArgument("set thing " + thing, () -> x.set(0, thing, 0, 0));
        }
        for (int session : new int[] {-1, 1, 20, MAX, MIN}) {
            due.illegalArgument("set in session " + session, () -> x.set(session, 0, 0, 0));
        }
        due.answer("thing 1 is there still", 1, () -> x.here(0, 1));
    }

    private static void promise4OrderOfRefusals() {
        ModelMerge x = fullSessionOfPersonZero();
        due.answer("FULL alone", ModelMerge.FULL, () -> x.set(0, 0, 0, 1));
        x.lock(0, 1);
        due.answer("LOCKED ahead of FULL", ModelMerge.LOCKED, () -> x.set(0, 0, 0, 1));
        x.lock(1, 1);
        due.answer("GONE ahead of LOCKED", ModelMerge.GONE, () -> x.set(0, 1, 0, 1));
        due.illegalArgument("a wrong field ahead of GONE", () -> x.set(0, 1, 5, 1));
        x.join(0);
        due.illegalState("not open ahead of GONE", () -> x.set(0, 1, 0, 1));
        due.illegalArgument("a wrong field ahead of not open", () -> x.set(0, 1, 5, 1));
        due.illegalArgument("a wrong thing ahead of not open", () -> x.set(0, 2, 0, 1));
    }

    // Thing 0 is there, thing 1 is dropped, and there are 60 moments.
    private static ModelMerge fullSessionOfPersonZero() {
        ModelMerge x = new ModelMerge();
        x.session(0, 0);
        x.make(0, 0);
        x.make(0, 0);
        x.drop(0, 1);
        for (int i = 4; i < 60; i++) {
            x.set(0, 0, 0, i);
        }
        return x;
    }

    private static void promise5Drop() {
        ModelMerge x = new ModelMerge();
        x.session(0, 0);
        x.session(1, 0);
        x.make(0, 0);
        x.make(0, 1);
        due.answer("drop", 3, () -> x.drop(0, 0));
        due.answer("not there", 0, () -> x.here(0, 0));
        due.answer("the other one is", 1, () -> x.here(0, 1));
        due.illegalArgument("not read any more", () -> x.now(0, 0, 0));
        due.answer("drop again", ModelMerge.GONE, () -> x.drop(0, 0));
        due.answer("set", ModelMerge.GONE, () -> x.set(0, 0, 0, 0));
        due.answer("drop where it never was", ModelMerge.GONE, () -> x.drop(1, 1));
        due.answer("no moment for that", 1, () -> x.told(1, 4));
        for (int thing : new int[] {-1, 2, 60, MAX, MIN}) {
            due.illegalArgument("drop thing " + thing, () -> x.drop(0, thing));
        }
        for (int session : new int[] {-1, 2, 20, MAX, MIN}) {
            due.illegalArgument("drop in session " + session, () -> x.drop(session, 1));
        }
    }

    private static void promise5OrderOfRefusals() {
        ModelMerge x = fullSessionOfPersonZero();
        due.answer("FULL alone", ModelMerge.FULL, () -> x.drop(0, 0));
        x.lock(0, 1);
        due.answer("LOCKED ahead of FULL", ModelMerge.LOCKED, () -> x.drop(0, 0));
        x.lock(1, 1);
        due.answer("GONE ahead of LOCKED", ModelMerge.GONE, () -> x.drop(0, 1));
        x.join(0);
        due.illegalState("not open ahead of GONE", () -> x.drop(0, 1));
        due.illegalArgument("a wrong thing ahead of not open", () -> x.drop(0, 2));
    }

    private static void promise6Undo() {
        ModelMerge x = new ModelMerge();
        x.session(0, 0);
        due.answer("undo at moment 0", ModelMerge.NONE, () -> x.undo(0));
        x.make(0, 0);
        x.set(0, 0, 2, 5);
        x.set(0, 0, 2, 6);
        x.drop(0, 0);
        due.answer("undo the drop", 3, () -> x.undo(0));
        due.answer("as it was", 6, () -> x.now(0, 0, 2));
        due.answer("undo a set", 2, () -> x.undo(0));
        due.answer("the value before", 5, () -> x.now(0, 0, 2));
        due.answer("a change from here", 5, () -> x.set(0, 0, 3, 7));
        due.answer("undo goes along the tree", 2, () -> x.undo(0));
        due.answer("that field is back", 0, () -> x.now(0, 0, 3));
        due.answer("undo the first set", 1, () -> x.undo(0));
        due.answer("undo the make", 0, () -> x.undo(0));
        due.answer("not there", 0, () -> x.here(0, 0));
        due.answer("undo no further", ModelMerge.NONE, () -> x.undo(0));
        due.answer("moments stay", 6, () -> x.told(0, 4));
        for (int session : new int[] {-1, 1, 20, MAX, MIN}) {
            due.illegalArgument("undo in session " + session, () -> x.undo(session));
        }
    }

    private static void promise7Redo() {
        ModelMerge x = new ModelMerge();
        x.session(0, 0);
        due.answer("nothing to redo", ModelMerge.NONE, () -> x.redo(0));
        x.make(0, 0);
        x.set(0, 0, 0, 1);
        x.undo(0);
        x.set(0, 0, 0, 2);
        due.answer("redo at a leaf", ModelMerge.NONE, () -> x.redo(0));
        x.undo(0);
        due.answer("redo the one made last", 3, () -> x.redo(0));
        due.answer("with its value", 2, () -> x.now(0, 0, 0));
        x.undo(0);
        x.undo(0);
        due.answer("redo the make", 1, () -> x.redo(0));
        due.answer("its fields are 0", 0, () -> x.now(0, 0, 0));
        due.answer("redo down the newer branch", 3, () -> x.redo(0));
        x.undo(0);
        x.drop(0, 0);
        x.undo(0);
        due.answer("redo a drop", 4, () -> x.redo(0));
        due.answer("it is not there", 0, () -> x.here(0, 0));
        for (int session : new int[] {-1, 1, 20, MAX, MIN}) {
            due.illegalArgument("redo in session " + session, () -> x.redo(session));
        }
    }

    private static void changesWantAnOpenSession() {
        ModelMerge x = new ModelMerge();
        x.session(0, 0);
        x.make(0, 0);
        x.join(0);
        refusesChanges(x, 0, "over");
        x.session(0, 1);
        x.session(0, 1);
        x.set(1, 0, 0, 1);
        x.set(2, 0, 0, 2);
        x.join(1);
        x.join(2);
        due.answer("is pending", 1, () -> x.told(2, 0));
        refusesChanges(x, 2, "pending");
        x.giveUp();
        due.answer("open again: set", 2, () -> x.set(2, 0, 0, 3));
        due.answer("open again: undo", 1, () -> x.undo(2));
        due.answer("open again: redo", 2, () -> x.redo(2));
        due.answer("open again: make", 1, () -> x.make(2, 0));
        due.answer("open again: drop", 4, () -> x.drop(2, 0));
    }

    private static void refusesChanges(ModelMerge x, int session, String how) {
        due.illegalState(how + ": make", () -> x.make(session, 0));
        due.illegalArgument(how + ": make of kind 5", () -> x.make(session, 5));
        due.illegalState(how + ": set", () -> x.set(session, 0, 0, 1));
        due.illegalState(how + ": drop", () -> x.drop(session, 0));
        due.illegalState(how + ": undo", () -> x.undo(session));
        due.illegalState(how + ": redo", () -> x.redo(session));
    }

    private static void aCallThatThrowsChangesNothing() {
        ModelMerge x = new ModelMerge();
        x.session(0, 0);
        x.make(0, 0);
        due.illegalArgument("set", () -> x.set(0, 0, 5, 9));
        due.illegalArgument("make", () -> x.make(0, 5));
        due.illegalArgument("drop", () -> x.drop(0, 1));
        due.answer("moments", 2, () -> x.told(0, 4));
        due.answer("things", 1, () -> x.count(1));
        x.join(0);
        due.illegalState("set when over", () -> x.set(0, 0, 0, 9));
        due.illegalState("undo when over", () -> x.undo(0));
        due.answer("stands where it stood", 1, () -> x.told(0, 3));
        due.answer("field as it was", 0, () -> x.now(0, 0, 0));
    }
}
