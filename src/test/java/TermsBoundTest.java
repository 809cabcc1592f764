/** The sentences of the section 'Terms' that name a bound, each with the sentence ahead of it. */
public final class TermsBoundTest {
    private static final int MAX = Integer.MAX_VALUE;
    private static final int MIN = Integer.MIN_VALUE;
    private static final int NONE = ModelMerge.NONE;
    private static final int LOCKED = ModelMerge.LOCKED;
    private static final int GONE = ModelMerge.GONE;
    private static final int FULL = ModelMerge.FULL;
    private static final int BUSY = ModelMerge.BUSY;
    private static final Due due = new Due("TermsBoundTest");

    public static void main(String[] args) {
        fiveHundredTwelveCalls();
        objectsShareNothing();
        things();
        kinds();
        fieldsAndValues();
        versionZeroHasNone();
        twentyOneVersions();
        persons();
        sessions();
        momentZeroIsTheBase();
        sixtyMoments();
        redoToTheOneMadeLast();
        phases();
        madeWithAllFieldsZero();
        theNextNumberOfAll();
        droppedInThatStateAlone();
        locksOfOthers();
        tenRules();
        rulesNameThings();
        acts();
        due.end();
    }

    // "An object is used for at most 512 calls after it has been made"
    private static void fiveHundredTwelveCalls() {
        Run x = new Run(due, "512 calls");
        x.does("session", 0, 0).does("make", 0, 0);
        for (int i = 2; i < 60; i++) {
            x.gives(i, "set", 0, 0, 0, i);
        }
        for (int i = 60; i < 510; i += 2) {
            x.gives(58, "undo", 0).gives(59, "redo", 0);
        }
        x.gives(0, "join", 0).gives(59, "at", 1, 0, 0);
    }

    // Promise 1, "Version 0 alone", also while other objects are in use: things, sessions, rules,
    // locks and conflicts of the one are not those of the other.
    private static void objectsShareNothing() {
        Run x = new Run(due, "one object");
        x.does("session", 0, 0).does("make", 0, 3).does("rule", 3, 0, 0).does("join", 0);
        x.does("lock", 0, 6);
        Run y = new Run(due, "another object");
        y.gives(1, "count", 0).gives(0, "count", 1).gives(0, "count", 2).gives(0, "count", 3);
        y.gives(0, "session", 1, 0).gives(0, "make", 0, 1);
        x.gives(3, "there", 1, 0, 1).gives(0, "told", 0, 1).gives(0, "broken", 1, 0);
        y.gives(1, "there", 0, 0, 1).gives(1, "told", 0, 1).gives(NONE, "broken", 0, 0);
        y.gives(NONE, "lock", 0, 7).gives(0, "rule", 1, 1, 1).gives(0, "join", 0);
        x.gives(6, "lock", 0, NONE).gives(0, "broken", 1, 0);
        y.gives(7, "lock", 0, NONE).gives(NONE, "broken", 1, 0);
        conflictsOfTwoObjects(x, y);
    }

    private static void conflictsOfTwoObjects(Run x, Run y) {
        x.does("session", 0, 1).does("session", 0, 1).does("set", 1, 0, 2, 1);
        x.does("set", 2, 0, 2, 2).gives(0, "join", 1).gives(1, "join", 2);
        y.illegalState("conflict", 0, 0).illegalState("settle", 0, 1).illegalState("giveUp");
        y.does("session", 0, 1).does("session", 0, 1);
        y.does("set", 1, 0, 3, 3).does("set", 1, 0, 4, 4).does("set", 2, 0, 3, 5);
        y.does("set", 2, 0, 4, 6).gives(0, "join", 1).gives(2, "join", 2);
        y.gives(1, "settle", 0, 0);
        x.gives(2, "conflict", 0, 1).gives(NONE, "conflict", 0, 4);
        x.illegalArgument("conflict", 1, 0).gives(0, "settle", 0, 1).gives(2, "at", 3, 0, 2);
        y.gives(3, "conflict", 0, 1).gives(0, "conflict", 0, 4).gives(0, "settle", 1, 1);
        y.gives(3, "at", 3, 0, 3).gives(6, "at", 3, 0, 4).gives(0, "at", 3, 0, 2);
    }

    // "THINGS are 0 .. 59 as they come"
    private static void things() {
        Run x = new Run(due, "things");
        x.does("session", 0, 0).does("session", 0, 0).does("session", 0, 0);
        x.illegalArgument("here", 0, 0);
        for (int i = 0; i < 60; i++) {
            x.gives(i, "count", 1);
            x.wouldGive(Run.ARGUMENT, "here", 0, i);
            x.gives(i, "make", i % 3, i % 5);
            x.gives(1, "here", i % 3, i);
        }
        x.refuses(FULL, "make", 0, 0).refuses(FULL, "make", 1, 0).refuses(FULL, "make", 2, 4);
        x.gives(60, "count", 1);
        x.illegalArgument("here", 2, 60).illegalArgument("here", 2, -1);
    }

    // "each of a KIND 0 .. 4"
    private static void kinds() {
        Run x = new Run(due, "kinds");
        x.does("session", 0, 0);
        for (int kind = 0; kind < 5; kind++) {
            x.gives(kind, "make", 0, kind).gives(kind, "there", 0, kind, 1);
        }
        x.illegalArgument("make", 0, -1).illegalArgument("make", 0, 5);
        x.illegalArgument("make", 0, MIN).illegalArgument("make", 0, MAX);
        x.gives(5, "make", 0, 0);
    }

    // "with FIELDS 0 .. 4 (values 32 bits)"
    private static void fieldsAndValues() {
        Run x = new Run(due, "fields and values");
        x.does("session", 0, 0).does("make", 0, 0).does("make", 0, 0);
        int[] values = {MIN, MAX, -1, MIN + 1, MAX - 1};
        for (int field = 0; field < 5; field++) {
            x.does("set", 0, 0, field, values[field]);
        }
        x.gives(0, "join", 0).does("session", 0, 1);
        for (int field = 0; field < 5; field++) {
            x.gives(values[field], "now", 0, 0, field);
            x.gives(values[field], "at", 1, 0, field);
            x.gives(values[field], "now", 1, 0, field);
            x.gives(0, "at", 1, 1, field);
        }
        for (int field : new int[] {-1, 5, MIN, MAX}) {
            x.illegalArgument("set", 1, 0, field, 1);
            x.illegalArgument("now", 1, 0, field);
            x.illegalArgument("at", 1, 0, field);
            x.illegalArgument("since", 1, 0, field);
            x.illegalArgument("rule", 0, field, 0);
        }
        valuesThatAreAnswersBelowZero(x);
    }

    private static void valuesThatAreAnswersBelowZero(Run x) {
        int[] answers = {NONE, LOCKED, GONE, FULL, BUSY};
        for (int field = 0; field < 5; field++) {
            x.gives(field + 1, "set", 1, 1, field, answers[field]);
            x.gives(answers[field], "now", 1, 1, field);
        }
        x.gives(0, "join", 1);
        for (int field = 0; field < 5; field++) {
            x.gives(answers[field], "at", 2, 1, field).gives(2, "since", 2, 1, field);
        }
    }

    // "VERSION 0 has none"
    private static void versionZeroHasNone() {
        Run x = new Run(due, "version 0");
        x.gives(1, "count", 0);
        x.does("session", 0, 0).does("make", 0, 2).does("join", 0);
        x.gives(0, "there", 0, 0, 0).gives(2, "there", 0, 0, 1).gives(0, "there", 0, 0, 2);
        x.illegalArgument("at", 0, 0, 0).illegalArgument("since", 0, 0, 0);
        x.illegalArgument("author", 0);
        x.does("rule", 2, 0, 0);
        x.gives(0, "broken", 1, 0).gives(NONE, "broken", 0, 0);
        x.does("session", 0, 0).gives(0, "here", 1, 0);
    }

    // "there are 40 at most": each of the 20 sessions makes one version at most, so no run comes
    // to more than 21, and neither 40 versions nor FULL of join() can be tested.
    private static void twentyOneVersions() {
        Run x = new Run(due, "21 versions");
        for (int i = 0; i < 20; i++) {
            x.gives(i, "session", i % 10, i).gives(0, "join", i).gives(i + 1, "told", i, 5);
            x.gives(i, "author", i + 1).gives(i + 2, "count", 0);
        }
        x.illegalState("session", 0, 20).illegalState("join", 19);
        x.illegalArgument("author", 21).illegalArgument("session", 0, 21);
    }

    // "PERSONS are 0 .. 9"
    private static void persons() {
        Run x = new Run(due, "persons");
        for (int person = 0; person < 10; person++) {
            x.gives(person, "session", person, 0).gives(person, "told", person, 1);
        }
        x.does("make", 0, 0);
        x.gives(NONE, "lock", 0, 0);
        for (int person = 1; person < 10; person++) {
            x.gives(person - 1, "lock", 0, person);
        }
        for (int person : new int[] {10, MIN, MAX}) {
            x.illegalArgument("session", person, 0).illegalArgument("lock", 0, person);
        }
        x.illegalArgument("session", -1, 0).illegalArgument("lock", 0, -2);
        x.gives(9, "lock", 0, NONE).gives(NONE, "lock", 0, NONE);
    }

    // "SESSIONS are 0 .. 19 as they come, of persons, each from a version, its BASE"
    private static void sessions() {
        Run x = new Run(due, "sessions");
        x.illegalArgument("told", 0, 0);
        for (int i = 0; i < 20; i++) {
            x.gives(i, "count", 2);
            x.wouldGive(Run.ARGUMENT, "told", i, 0);
            x.gives(i, "session", i % 10, i / 10);
            x.gives(i / 10, "told", i, 2);
            if (i == 9) {
                x.gives(0, "join", 0);
            }
        }
        x.illegalState("session", 0, 0).illegalState("session", 9, 1);
        x.gives(20, "count", 2);
        x.illegalArgument("told", 20, 0).illegalArgument("told", -1, 0);
        x.gives(0, "join", 19);
        x.illegalState("session", 0, 0);
    }

    // "moment 0 is its base's state"
    private static void momentZeroIsTheBase() {
        Run x = new Run(due, "moment 0");
        x.does("session", 0, 0).gives(0, "told", 0, 3).gives(1, "told", 0, 4);
        x.does("make", 0, 0).does("make", 0, 0).does("set", 0, 0, 4, 7).does("join", 0);
        x.does("session", 0, 1).does("session", 0, 0);
        x.does("set", 1, 0, 4, 8).does("drop", 1, 1).does("drop", 1, 0).does("make", 1, 0);
        x.gives(3, "undo", 1).gives(2, "undo", 1).gives(1, "undo", 1).gives(0, "undo", 1);
        x.gives(7, "now", 1, 0, 4).gives(1, "here", 1, 1).gives(0, "here", 1, 2);
        x.gives(0, "here", 2, 0).gives(0, "here", 2, 1);
    }

    // "each CHANGE (a field set, a thing made or dropped) makes a moment (60 at most) behind the
    // one at which it stands, and goes there": moment 0 is one of the 60.
    private static void sixtyMoments() {
        Run x = new Run(due, "sixty moments");
        x.does("session", 0, 0).does("session", 1, 0).does("make", 0, 0);
        for (int moment = 2; moment < 58; moment++) {
            x.gives(moment, "set", 0, 0, 0, moment);
        }
        x.does("make", 0, 0).gives(58, "told", 0, 3).gives(59, "told", 0, 4);
        x.gives(59, "drop", 0, 1).gives(59, "told", 0, 3).gives(60, "told", 0, 4);
        x.refuses(FULL, "set", 0, 0, 0, 1).refuses(FULL, "drop", 0, 0).refuses(FULL, "make", 0, 0);
        x.gives(58, "undo", 0).gives(57, "undo", 0);
        x.refuses(FULL, "set", 0, 0, 0, 1).refuses(FULL, "drop", 0, 0).refuses(FULL, "make", 0, 0);
        x.gives(58, "redo", 0).gives(59, "redo", 0).refuses(NONE, "redo", 0);
        x.gives(2, "make", 1, 0).gives(0, "join", 0).gives(57, "at", 1, 0, 0);
    }

    // "UNDO goes to the moment before; REDO to the one made last behind it"
    private static void redoToTheOneMadeLast() {
        Run x = new Run(due, "redo to the one made last");
        x.does("session", 0, 0).does("make", 0, 0);
        x.gives(2, "set", 0, 0, 0, 2).gives(3, "set", 0, 0, 0, 3);
        x.gives(2, "undo", 0).gives(1, "undo", 0);
        x.gives(4, "set", 0, 0, 0, 4).gives(5, "set", 0, 0, 0, 5);
        x.gives(4, "undo", 0).gives(6, "set", 0, 0, 0, 6).gives(4, "undo", 0);
        x.gives(1, "undo", 0).gives(0, "now", 0, 0, 0);
        x.gives(4, "redo", 0).gives(4, "now", 0, 0, 0);
        x.gives(6, "redo", 0).gives(6, "now", 0, 0, 0);
        x.refuses(NONE, "redo", 0);
        x.gives(4, "undo", 0).gives(1, "undo", 0).gives(0, "undo", 0);
        x.gives(1, "make", 0, 0).gives(7, "told", 0, 3).gives(0, "undo", 0);
        x.gives(7, "redo", 0).gives(0, "here", 0, 0).gives(1, "here", 0, 1);
        x.refuses(NONE, "redo", 0);
    }

    // "A session is OPEN, PENDING (it has conflicts), or OVER."
    private static void phases() {
        Run x = new Run(due, "phases");
        x.does("session", 0, 0).gives(0, "told", 0, 0).does("make", 0, 0);
        x.gives(0, "join", 0).gives(2, "told", 0, 0);
        x.does("session", 0, 1).does("session", 0, 1);
        x.does("set", 1, 0, 0, 1).does("set", 2, 0, 0, 2).does("join", 1);
        x.gives(1, "join", 2).gives(1, "told", 2, 0);
        x.gives(2, "giveUp").gives(0, "told", 2, 0);
        x.gives(1, "join", 2).gives(1, "told", 2, 0);
        x.gives(0, "settle", 0, 1).gives(2, "told", 2, 0);
    }

    // "A thing that is made has all fields 0", also behind another one that had values, and if
    // its making is undone and redone.
    private static void madeWithAllFieldsZero() {
        Run x = new Run(due, "all fields 0");
        x.does("session", 0, 0).does("make", 0, 0);
        for (int field = 0; field < 5; field++) {
            x.does("set", 0, 0, field, 9);
        }
        x.does("drop", 0, 0).gives(1, "make", 0, 0);
        fieldsAreZero(x, 0, 1);
        x.does("set", 0, 1, 2, 5).does("undo", 0).does("undo", 0).does("redo", 0);
        fieldsAreZero(x, 0, 1);
        x.gives(0, "join", 0).does("session", 0, 1);
        fieldsAreZero(x, 1, 1);
    }

    private static void fieldsAreZero(Run x, int session, int thing) {
        for (int field = 0; field < 5; field++) {
            x.gives(0, "now", session, thing, field);
        }
    }

    // "its number is the next one of all (also if it is undone or never joined)"
    private static void theNextNumberOfAll() {
        Run x = new Run(due, "the next number");
        x.does("session", 0, 0).does("session", 1, 0);
        x.gives(0, "make", 0, 0).gives(0, "undo", 0).gives(1, "make", 0, 1);
        x.gives(2, "make", 1, 2).gives(3, "drop", 0, 1).gives(3, "make", 1, 3);
        x.gives(0, "join", 0).gives(4, "make", 1, 4).gives(5, "count", 1);
        for (int thing = 0; thing < 5; thing++) {
            x.gives(thing, "there", 1, thing, 1).gives(0, "there", 1, thing, 0);
        }
        Run y = new Run(due, "sixty numbers, all undone");
        y.does("session", 0, 0).does("session", 0, 0);
        for (int i = 0; i < 60; i++) {
            y.gives(i, "make", i % 2, 0).gives(0, "undo", i % 2);
        }
        y.refuses(FULL, "make", 0, 0).refuses(FULL, "make", 1, 0);
        y.gives(0, "join", 0).gives(NONE, "differs", 0, 1, 0).gives(60, "count", 1);
    }

    // "A thing that is dropped is not there any more in that state."
    private static void droppedInThatStateAlone() {
        Run x = new Run(due, "dropped");
        x.does("session", 0, 0).does("make", 0, 0).does("set", 0, 0, 1, 6).does("join", 0);
        x.does("session", 0, 1).does("session", 0, 1);
        x.gives(1, "drop", 1, 0).gives(0, "here", 1, 0);
        x.illegalArgument("now", 1, 0, 1);
        x.refuses(GONE, "set", 1, 0, 1, 1).refuses(GONE, "drop", 1, 0);
        x.gives(1, "here", 2, 0).gives(6, "now", 2, 0, 1).gives(1, "there", 1, 0, 0);
        x.gives(0, "join", 1).gives(0, "there", 2, 0, 0).gives(1, "there", 1, 0, 0);
        x.gives(6, "at", 1, 0, 1).gives(6, "now", 2, 0, 1).gives(1, "set", 2, 0, 1, 6);
    }

    // "A person may LOCK a thing: in sessions of others it is not set or dropped. (Joining does
    // not ask for locks.)"
    private static void locksOfOthers() {
        Run x = new Run(due, "locks of others");
        x.does("session", 4, 0).does("make", 0, 0).does("make", 0, 0).does("join", 0);
        x.does("session", 4, 1).does("session", 4, 1).does("session", 5, 1);
        x.gives(NONE, "lock", 0, 4);
        x.gives(1, "set", 1, 0, 0, 1).gives(1, "set", 2, 0, 0, 2);
        x.refuses(LOCKED, "set", 3, 0, 0, 3).refuses(LOCKED, "drop", 3, 0);
        x.gives(1, "set", 3, 1, 0, 3).gives(2, "make", 3, 0);
        x.gives(4, "lock", 0, 7);
        x.refuses(LOCKED, "set", 1, 0, 0, 1).refuses(LOCKED, "drop", 2, 0);
        x.gives(0, "undo", 1).gives(1, "redo", 1);
        x.gives(NONE, "lock", 1, 7).gives(0, "join", 3).gives(3, "at", 2, 1, 0);
        x.gives(0, "join", 1).gives(1, "join", 2).gives(0, "settle", 0, 1);
        x.gives(2, "at", 4, 0, 0).gives(7, "lock", 0, NONE);
    }

    // "RULES 0 .. 9"
    private static void tenRules() {
        Run x = new Run(due, "rules");
        for (int i = 0; i < 10; i++) {
            x.gives(i, "count", 3).gives(i, "rule", i % 5, i % 5, 4 - i % 5);
        }
        x.illegalState("rule", 0, 0, 0);
        x.gives(10, "count", 3);
    }

    // "a field of things of one kind is to name (by its number) a thing of another kind that is
    // there": each row is a value of the field, and whether the thing is broken then.
    private static void rulesNameThings() {
        int[][] rows = {
            {1, 0}, {2, 0}, {0, 1}, {3, 1}, {4, 1}, {5, 1}, {6, 1},
            {59, 1}, {60, 1}, {61, 1}, {-1, 1}, {MAX, 1}, {MIN, 1},
        };
        for (int[] row : rows) {
            Run x = new Run(due, "a rule and the value " + row[0]);
            x.does("rule", 0, 4, 1).does("session", 0, 0);
            x.does("make", 0, 0).does("make", 0, 1).does("make", 0, 1).does("make", 0, 2);
            // Thing 4 is dropped, thing 5 is made by a session that never joins; there is no 6.
            x.does("make", 0, 1).does("drop", 0, 4).does("session", 0, 0).does("make", 1, 1);
            x.does("set", 0, 0, 4, row[0]).gives(0, "join", 0);
            x.gives(row[1] == 1 ? 0 : NONE, "broken", 1, 0).gives(NONE, "broken", 1, 1);
        }
    }

    // "of each version which session joined it; of each thing and field of a version, in which
    // version the value came last that it has (the version of the joining that changed it, or by
    // which the thing came to be there)"
    private static void acts() {
        Run x = new Run(due, "acts");
        x.does("session", 0, 0).does("session", 0, 0).does("make", 1, 0).gives(0, "join", 1);
        x.gives(1, "author", 1).gives(0, "join", 0).gives(0, "author", 2);
        x.gives(1, "since", 2, 0, 0);
        int[] values = {5, 5, 0, 5};
        int[] since = {3, 3, 5, 6};
        for (int i = 0; i < 4; i++) {
            x.does("session", 0, 2 + i).does("set", 2 + i, 0, 0, values[i]).gives(0, "join", 2 + i);
            x.gives(since[i], "since", 3 + i, 0, 0).gives(1, "since", 3 + i, 0, 1);
        }
        x.gives(1, "since", 2, 0, 0).gives(3, "since", 4, 0, 0);
    }
}
