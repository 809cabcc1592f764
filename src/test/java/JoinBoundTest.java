/** Promises 10 to 13 at their bounds, each test with the sentence that it asks for ahead of it. */
public final class JoinBoundTest {
    private static final int MAX = Integer.MAX_VALUE;
    private static final int MIN = Integer.MIN_VALUE;
    private static final int NONE = ModelMerge.NONE;
    private static final int GONE = ModelMerge.GONE;
    private static final int BUSY = ModelMerge.BUSY;
    private static final Due due = new Due("JoinBoundTest");

    public static void main(String[] args) {
        promise10JoinOfNothing();
        promise10WhatBothDidToAThing();
        promise10ThingsOfOneSide();
        promise10ValuesOfAField();
        promise10MineIsTheLatestVersion();
        promise10NotOpenAndBusy();
        promise10MostConflictsOfFields();
        promise10MostConflictsOfThings();
        promise11ByThingsThenFields();
        promise11SettledOrNot();
        promise11WhileOneIsPending();
        promise12InAnyOrder();
        promise12AlsoAnew();
        promise12AsAWhole();
        promise12TheLastThingAndField();
        promise13Which();
        promise13OpenAgain();
        promise13SettlingsAreForgotten();
        due.end();
    }

    // "Without conflicts a version comes": also if nothing was changed, or all of it undone.
    private static void promise10JoinOfNothing() {
        Run x = new Run(due, "join of nothing");
        x.illegalArgument("join", 0);
        x.does("session", 0, 0).gives(0, "join", 0).gives(2, "count", 0);
        x.gives(NONE, "differs", 0, 1, 0).gives(2, "told", 0, 0).gives(1, "told", 0, 5);
        x.illegalState("join", 0);
        x.does("session", 0, 1).does("make", 1, 0).does("undo", 1).gives(0, "join", 1);
        x.gives(NONE, "differs", 1, 2, 0).gives(0, "there", 2, 0, 0);
        x.does("session", 0, 2).does("make", 2, 0).does("drop", 2, 1).gives(0, "join", 2);
        x.gives(NONE, "differs", 2, 3, 0).gives(0, "there", 3, 1, 0).gives(4, "count", 0);
    }

    // What a session does to thing 0, whose fields are 5: 0 nothing, 1 a change, 2 a drop, 3 a
    // change and back, 4 set to what it is, 5 a drop undone, 6 a change and a drop.
    private static final String EFFECTS = "-cd---d";

    private static void act(Run x, int how, int session, int field, int v) {
        if (how == 1 || how == 3 || how == 6) {
            x.does("set", session, 0, field, v);
        }
        if (how == 3 || how == 4) {
            x.does("set", session, 0, field, 5);
        }
        if (how == 2 || how == 5 || how == 6) {
            x.does("drop", session, 0);
        }
        if (how == 5) {
            x.does("undo", session);
        }
    }

    // "Whether it is there: as in THEIRS if that differs from the base, else as in MINE; but if
    // one of both dropped it, and the other one changed a field of it (or made it, which cannot
    // be), this is a CONFLICT of the thing (field NONE)". A thing is made by one session alone, so
    // none is made here and dropped there.
    private static void promise10WhatBothDidToAThing() {
        for (int mine = 0; mine < EFFECTS.length(); mine++) {
            for (int theirs = 0; theirs < EFFECTS.length(); theirs++) {
                for (int field = 0; field < 5; field += 4) {
                    whatBothDid(mine, theirs, field);
                }
            }
        }
    }

    private static void whatBothDid(int mine, int theirs, int field) {
        Run x = new Run(due, "MINE " + mine + ", THEIRS " + theirs + ", field " + field);
        x.does("session", 0, 0).does("make", 0, 0).does("set", 0, 0, field, 5).does("join", 0);
        x.does("session", 1, 1).does("session", 2, 1);
        act(x, mine, 1, field, 6);
        act(x, theirs, 2, field, 7);
        x.gives(0, "join", 1);
        String effects = "" + EFFECTS.charAt(mine) + EFFECTS.charAt(theirs);
        switch (effects) {
            case "--" -> x.gives(0, "join", 2).gives(5, "at", 3, 0, field);
            case "c-" -> x.gives(0, "join", 2).gives(6, "at", 3, 0, field);
            case "-c" -> x.gives(0, "join", 2).gives(7, "at", 3, 0, field);
            case "cc" -> isConflict(x, field, 6, 7);
            case "cd" -> isConflict(x, NONE, 1, 0);
            case "dc" -> isConflict(x, NONE, 0, 1);
            default -> x.gives(0, "join", 2).gives(0, "there", 3, 0, 0);
        }
    }

    private static void isConflict(Run x, int field, int mine, int theirs) {
        x.gives(1, "join", 2).gives(0, "conflict", 0, 0).gives(field, "conflict", 0, 1);
        x.gives(mine, "conflict", 0, 2).gives(theirs, "conflict", 0, 3);
        x.gives(NONE, "conflict", 0, 4).illegalArgument("conflict", 1, 0);
        x.gives(3, "count", 0).gives(1, "told", 2, 0);
    }

    // "If it is there in one alone (and no conflict), its fields are that one's."
    private static void promise10ThingsOfOneSide() {
        Run x = new Run(due, "things of one side");
        x.does("session", 0, 0).does("session", 1, 0).does("session", 2, 0);
        x.does("make", 1, 1).does("set", 1, 0, 0, MIN).does("set", 1, 0, 4, -1);
        x.does("make", 2, 2).does("set", 2, 1, 0, MAX).does("set", 2, 1, 4, -2);
        x.gives(0, "join", 1).gives(0, "join", 2).gives(0, "join", 0);
        for (int version = 2; version < 4; version++) {
            x.gives(MIN, "at", version, 0, 0).gives(0, "at", version, 0, 2);
            x.gives(-1, "at", version, 0, 4);
            x.gives(MAX, "at", version, 1, 0).gives(-2, "at", version, 1, 4);
        }
        x.gives(0, "there", 1, 1, 0);
    }

    // "If it is there in both: each field whose values in MINE and THEIRS both differ from the
    // base, and from one another, is a CONFLICT; otherwise it is THEIRS if that differs from the
    // base, else MINE." Rows: base, MINE, THEIRS, whether it is a conflict.
    private static void promise10ValuesOfAField() {
        int[][] rows = {
            {0, 0, 0, 0}, {0, 0, 1, 0}, {0, 1, 0, 0}, {0, 1, 1, 0}, {0, 1, 2, 1}, {0, 1, -1, 1},
            {MIN, MIN, MAX, 0}, {MIN, MAX, MIN, 0}, {MIN, MAX, MAX, 0}, {MIN, MAX, 0, 1},
            {MAX, MIN, 0, 1}, {0, MIN, MAX, 1}, {0, MAX, MIN, 1}, {MAX, MIN, MIN, 0},
            {-1, 0, 1, 1}, {1, 0, 0, 0}, {1, 0, 1, 0}, {1, 1, 0, 0}, {NONE, -2, -3, 1},
        };
        for (int[] row : rows) {
            for (int field = 0; field < 5; field++) {
                valuesOfAField(row, field);
            }
        }
    }

    private static void valuesOfAField(int[] row, int field) {
        Run x = new Run(due, row[0] + ", MINE " + row[1] + ", THEIRS " + row[2] + ", " + field);
        x.does("session", 0, 0).does("make", 0, 0).does("set", 0, 0, field, row[0]);
        x.does("join", 0).does("session", 1, 1).does("session", 2, 1);
        x.does("set", 1, 0, field, row[1]).does("set", 2, 0, field, row[2]).gives(0, "join", 1);
        if (row[3] == 1) {
            isConflict(x, field, row[1], row[2]);
            x.gives(0, "settle", 0, 1).gives(row[2], "at", 3, 0, field);
        } else {
            x.gives(0, "join", 2);
            x.gives(row[2] != row[0] ? row[2] : row[1], "at", 3, 0, field);
        }
        x.gives(row[1], "at", 2, 0, field).gives(0, "at", 3, 0, (field + 1) % 5);
    }

    // "with the latest version's state (MINE), the base's, and the session's (THEIRS)": what came
    // and went between the base and the latest version is no difference.
    private static void promise10MineIsTheLatestVersion() {
        Run x = new Run(due, "the latest version is MINE");
        x.does("session", 0, 0).does("make", 0, 0).does("make", 0, 0).does("join", 0);
        x.does("session", 1, 1).does("set", 1, 0, 0, 7).does("drop", 1, 1);
        x.does("session", 2, 1).does("set", 2, 0, 0, 8).does("set", 2, 1, 0, 8).gives(0, "join", 2);
        x.gives(2, "join", 1).gives(1, "giveUp");
        x.does("session", 2, 2).does("set", 3, 0, 0, 0).does("set", 3, 1, 0, 0).gives(0, "join", 3);
        x.gives(0, "join", 1).gives(7, "at", 4, 0, 0).gives(0, "there", 4, 1, 0);
    }

    // "illegal state: it is not OPEN", "BUSY", and "While one is pending no other one joins."
    private static void promise10NotOpenAndBusy() {
        Run x = twoFieldsAndAThing("not open and busy");
        x.does("session", 3, 2).gives(3, "join", 2);
        x.refuses(BUSY, "join", 3).illegalState("join", 2).illegalState("join", 1);
        x.gives(2, "settle", 0, 0).gives(1, "settle", 1, 0);
        x.refuses(BUSY, "join", 3).illegalState("join", 2);
        x.gives(0, "settle", 2, 0);
        x.illegalState("join", 2).gives(0, "join", 3).illegalState("join", 3);
        x.gives(3, "told", 2, 5).gives(4, "told", 3, 5);
    }

    // Session 2 has three conflicts: fields 0 and 4 of thing 0, and thing 1, which it dropped.
    private static Run twoFieldsAndAThing(String name) {
        Run x = new Run(due, name);
        x.does("session", 0, 0).does("make", 0, 0).does("make", 0, 0).does("join", 0);
        x.does("session", 1, 1).does("session", 2, 1);
        x.does("set", 1, 0, 0, 10).does("set", 1, 0, 4, 14).does("set", 1, 1, 2, 12);
        x.does("set", 2, 0, 0, 20).does("set", 2, 0, 4, 24).does("drop", 2, 1);
        x.gives(0, "join", 1);
        return x;
    }

    // A session has 59 changes at most, and each conflict wants one of its own: 59 are the most.
    private static void promise10MostConflictsOfFields() {
        Run x = new Run(due, "59 conflicts of fields");
        x.does("session", 0, 0);
        for (int thing = 0; thing < 12; thing++) {
            x.does("make", 0, 0);
        }
        x.does("join", 0).does("session", 0, 1).does("session", 0, 1);
        for (int cell = 58; cell >= 0; cell--) {
            x.does("set", 1, cell / 5, cell % 5, 100 + cell);
            x.does("set", 2, cell / 5, cell % 5, 200 + cell);
        }
        x.gives(0, "join", 1).gives(59, "join", 2);
        x.illegalArgument("conflict", 59, 0).illegalArgument("settle", 59, 0);
        x.illegalArgument("conflict", -1, 0).illegalArgument("settle", -1, 0);
        for (int k = 0; k < 59; k++) {
            x.gives(k / 5, "conflict", k, 0).gives(k % 5, "conflict", k, 1);
            x.gives(100 + k, "conflict", k, 2).gives(200 + k, "conflict", k, 3);
        }
        x.gives(58, "settle", 58, 1);
        for (int k = 58; k >= 0; k--) {
            x.gives(k, "settle", k, k % 2);
        }
        for (int k = 0; k < 59; k++) {
            x.gives((k % 2 + 1) * 100 + k, "at", 3, k / 5, k % 5);
        }
    }

    private static void promise10MostConflictsOfThings() {
        Run x = sixtyThings("59 conflicts of things");
        for (int thing = 1; thing < 60; thing++) {
            x.does("set", 2, thing, thing % 5, thing);
            x.does("drop", 3, thing);
        }
        x.gives(0, "join", 2).gives(59, "join", 3);
        x.gives(59, "conflict", 58, 0).illegalArgument("conflict", 59, 0);
        for (int k = 0; k < 59; k++) {
            x.gives(k + 1, "conflict", k, 0).gives(NONE, "conflict", k, 1);
        }
        for (int k = 0; k < 59; k++) {
            x.gives(58 - k, "settle", k, k % 2);
        }
        for (int thing = 1; thing < 60; thing++) {
            x.gives(thing % 2, "there", 4, thing, 0);
        }
        x.gives(59, "at", 4, 59, 4).gives(1, "there", 4, 0, 0);
    }

    // Version 2 has all sixty things; sessions 2 and 3 begin at it.
    private static Run sixtyThings(String name) {
        Run x = new Run(due, name);
        x.does("session", 0, 0).does("session", 1, 0);
        for (int thing = 0; thing < 60; thing++) {
            x.gives(thing, "make", thing < 59 ? 0 : 1, thing % 5);
        }
        x.gives(0, "join", 0).gives(0, "join", 1);
        x.does("session", 2, 2).does("session", 3, 2);
        return x;
    }

    // "conflicts stand by things, then fields", in whatever order the changes were made; "the
    // value of MINE, 3 of THEIRS (of things: whether it is there, 1 or 0), 4 the side .. NONE".
    private static void promise11ByThingsThenFields() {
        Run x = twoFieldsAndAThing("conflicts in order");
        x.illegalState("conflict", 0, 0);
        x.gives(3, "join", 2);
        int[][] want = {{0, 0, 10, 20, NONE}, {0, 4, 14, 24, NONE}, {1, NONE, 1, 0, NONE}};
        for (int k = 0; k < 3; k++) {
            for (int what = 0; what < 5; what++) {
                x.gives(want[k][what], "conflict", k, what);
            }
            x.illegalArgument("conflict", k, -1).illegalArgument("conflict", k, 5);
        }
        x.illegalArgument("conflict", 3, 0).illegalArgument("conflict", -1, 0);
        x.illegalArgument("conflict", MAX, 0).illegalArgument("conflict", MIN, 0);
        x.gives(2, "settle", 2, 1).gives(1, "conflict", 2, 4).gives(NONE, "conflict", 1, 4);
        x.gives(2, "settle", 2, 0).gives(0, "conflict", 2, 4);
        x.gives(0, "conflict", 2, 3).gives(1, "conflict", 2, 2);
    }

    // The values of MINE and THEIRS are told as they were, for whichever side it is settled.
    private static void promise11SettledOrNot() {
        int[][] want = {{0, 0, 10, 20}, {0, 4, 14, 24}, {1, NONE, 1, 0}};
        for (int side = 0; side < 2; side++) {
            for (int k = 0; k < 3; k++) {
                Run x = twoFieldsAndAThing("conflict " + k + " settled for side " + side);
                x.gives(3, "join", 2).gives(2, "settle", k, side);
                for (int other = 0; other < 3; other++) {
                    for (int what = 0; what < 4; what++) {
                        x.gives(want[other][what], "conflict", other, what);
                    }
                    x.gives(other == k ? side : NONE, "conflict", other, 4);
                }
                x.gives(20, "now", 2, 0, 0).gives(0, "here", 2, 1).gives(10, "at", 2, 0, 0);
            }
        }
    }

    // What other sessions do, and locks and rules, leave the pending one's conflicts alone.
    private static void promise11WhileOneIsPending() {
        Run x = twoFieldsAndAThing("while one is pending");
        x.gives(3, "join", 2).does("session", 0, 2).does("set", 3, 0, 0, 99).does("drop", 3, 1);
        x.does("undo", 3).does("redo", 3).does("make", 3, 0);
        x.does("lock", 0, 9).does("rule", 0, 0, 0);
        x.refuses(BUSY, "join", 3).refuses(GONE, "set", 3, 1, 0, 1);
        x.gives(10, "conflict", 0, 2).gives(20, "conflict", 0, 3).gives(1, "conflict", 2, 2);
        x.gives(2, "settle", 0, 1).gives(1, "settle", 1, 1).gives(0, "settle", 2, 1);
        x.gives(20, "at", 3, 0, 0).gives(24, "at", 3, 0, 4).gives(0, "there", 3, 1, 0);
        x.gives(0, "there", 3, 2, 0).gives(1, "here", 3, 2).gives(9, "lock", 0, NONE);
        x.gives(1, "join", 3).gives(20, "conflict", 0, 2).gives(99, "conflict", 0, 3);
    }

    // "settled, each for a side (1 THEIRS, 0 MINE), in any order; with the last one the version
    // comes": all orders and sides of three conflicts.
    private static void promise12InAnyOrder() {
        int[][] orders = {{0, 1, 2}, {0, 2, 1}, {1, 0, 2}, {1, 2, 0}, {2, 0, 1}, {2, 1, 0}};
        for (int[] order : orders) {
            for (int sides = 0; sides < 8; sides++) {
                Run x = twoFieldsAndAThing("order " + order[0] + order[1] + ", sides " + sides);
                x.gives(3, "join", 2);
                for (int i = 0; i < 3; i++) {
                    x.gives(3, "count", 0).gives(1, "told", 2, 0).gives(NONE, "told", 2, 5);
                    x.gives(2 - i, "settle", order[i], sides >> order[i] & 1);
                }
                x.gives(4, "count", 0).gives(2, "told", 2, 0).gives(3, "told", 2, 5);
                x.gives((sides & 1) == 1 ? 20 : 10, "at", 3, 0, 0);
                x.gives((sides & 2) == 2 ? 24 : 14, "at", 3, 0, 4);
                x.gives((sides & 4) == 4 ? 0 : 1, "there", 3, 1, 0);
                x.illegalState("settle", order[2], 0);
            }
        }
    }

    // "settled for a side (also anew): how many are left"
    private static void promise12AlsoAnew() {
        Run x = twoFieldsAndAThing("anew");
        x.illegalState("settle", 0, 0);
        x.gives(3, "join", 2);
        x.gives(2, "settle", 0, 0).gives(2, "settle", 0, 0).gives(2, "settle", 0, 1);
        x.gives(1, "settle", 2, 0).gives(1, "settle", 0, 0).gives(1, "settle", 2, 1);
        x.illegalArgument("settle", 3, 0).illegalArgument("settle", -1, 0);
        x.illegalArgument("settle", 1, 2).illegalArgument("settle", 1, -1);
        x.gives(NONE, "conflict", 1, 4).gives(0, "settle", 1, 1);
        x.gives(10, "at", 3, 0, 0).gives(24, "at", 3, 0, 4).gives(0, "there", 3, 1, 0);
        x.illegalState("settle", 1, 1).illegalState("conflict", 1, 4);
    }

    // "A conflict of a thing settled for the side that dropped it: it is not there; for the other
    // one: it is there as in that one."
    private static void promise12AsAWhole() {
        for (int dropper = 1; dropper < 3; dropper++) {
            for (int side = 0; side < 2; side++) {
                Run x = new Run(due, "session " + dropper + " dropped it, side " + side);
                x.does("session", 0, 0).does("make", 0, 3).does("set", 0, 0, 1, 5);
                x.does("join", 0).does("session", 0, 1).does("session", 0, 1);
                x.does("set", 3 - dropper, 0, 0, MIN).does("set", 3 - dropper, 0, 4, MAX);
                x.does("drop", dropper, 0).gives(0, "join", 1).gives(1, "join", 2);
                x.gives(0, "settle", 0, side);
                if (side == dropper - 1) {
                    x.gives(0, "there", 3, 0, 0).illegalArgument("at", 3, 0, 0);
                } else {
                    x.gives(1, "there", 3, 0, 0).gives(3, "there", 3, 0, 1);
                    x.gives(MIN, "at", 3, 0, 0).gives(5, "at", 3, 0, 1).gives(0, "at", 3, 0, 2);
                    x.gives(0, "at", 3, 0, 3).gives(MAX, "at", 3, 0, 4);
                }
            }
        }
    }

    // Thing 59 and field 4 are settled like the others.
    private static void promise12TheLastThingAndField() {
        Run x = sixtyThings("thing 59, field 4");
        x.does("set", 2, 59, 4, 1).does("set", 3, 59, 4, 2);
        x.does("set", 2, 0, 0, 3).does("set", 3, 0, 0, 4);
        x.gives(0, "join", 2).gives(2, "join", 3);
        x.gives(0, "conflict", 0, 0).gives(0, "conflict", 0, 1);
        x.gives(59, "conflict", 1, 0).gives(4, "conflict", 1, 1);
        x.gives(1, "conflict", 1, 2).gives(2, "conflict", 1, 3);
        x.gives(1, "settle", 1, 1).gives(0, "settle", 0, 0);
        x.gives(2, "at", 4, 59, 4).gives(3, "at", 4, 0, 0).gives(0, "at", 4, 59, 3);
    }

    // "The session that is pending is given up: which. Illegal state: no session is pending."
    // Session 0 begins at version 0, which has no thing to differ about: 1 is the first that can
    // be pending, and 19 the last.
    private static void promise13Which() {
        Run x = new Run(due, "give up sessions 1 and 19");
        x.illegalState("giveUp");
        x.does("session", 0, 0).does("make", 0, 0).does("join", 0);
        for (int i = 1; i < 20; i++) {
            x.gives(i, "session", 0, 1).does("set", i, 0, 0, i);
        }
        x.gives(0, "join", 10).illegalState("giveUp");
        x.gives(1, "join", 1).gives(1, "giveUp").illegalState("giveUp");
        x.gives(1, "join", 19).gives(19, "giveUp").illegalState("giveUp");
        x.gives(1, "join", 19).gives(0, "settle", 0, 0).illegalState("giveUp");
        x.gives(10, "at", 3, 0, 0).gives(0, "told", 1, 0);
    }

    // "it is OPEN again": it is changed, joins without a conflict, or behind another one.
    private static void promise13OpenAgain() {
        Run x = twoFieldsAndAThing("open again");
        x.gives(3, "join", 2).illegalState("undo", 2).gives(2, "giveUp");
        x.gives(0, "told", 2, 0).gives(NONE, "told", 2, 5).gives(3, "count", 0);
        x.gives(3, "told", 2, 3).gives(4, "told", 2, 4);
        x.gives(2, "undo", 2).gives(2, "join", 2).illegalArgument("conflict", 2, 0);
        x.gives(2, "giveUp").gives(1, "undo", 2).gives(1, "join", 2).gives(2, "giveUp");
        x.gives(0, "undo", 2).gives(0, "join", 2).illegalState("giveUp");
        x.gives(NONE, "differs", 2, 3, 0);

        Run y = twoFieldsAndAThing("behind another one");
        y.gives(3, "join", 2).gives(2, "giveUp").does("session", 4, 2).does("drop", 3, 0);
        y.gives(0, "join", 3).gives(2, "join", 2);
        y.gives(0, "conflict", 0, 0).gives(NONE, "conflict", 0, 1).gives(0, "conflict", 0, 2);
    }

    // "and its settlings are forgotten"
    private static void promise13SettlingsAreForgotten() {
        Run x = twoFieldsAndAThing("settlings are forgotten");
        x.gives(3, "join", 2).gives(2, "settle", 0, 1).gives(1, "settle", 1, 1);
        x.gives(2, "giveUp").illegalState("settle", 2, 1).illegalState("conflict", 0, 4);
        x.gives(3, "join", 2);
        for (int k = 0; k < 3; k++) {
            x.gives(NONE, "conflict", k, 4);
        }
        x.gives(2, "settle", 2, 0).gives(1, "settle", 1, 0).gives(0, "settle", 0, 0);
        x.gives(10, "at", 3, 0, 0).gives(14, "at", 3, 0, 4).gives(12, "at", 3, 1, 2);
    }
}
