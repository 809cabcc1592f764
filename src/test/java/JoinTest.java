/** Promises 10 to 13: join, conflict, settle, giveUp. */
public final class JoinTest {
    private static final int MAX = Integer.MAX_VALUE;
    private static final int MIN = Integer.MIN_VALUE;
    private static final Due due = new Due("JoinTest");

    public static void main(String[] args) {
        promise10JoinsWithoutConflict();
        promise10Things();
        promise10Fields();
        promise10Refusals();
        promise10JoinsTheMomentItStandsAt();
        promise11Conflict();
        promise11Refusals();
        promise12Settle();
        promise12WholeThings();
        promise12Refusals();
        promise13GiveUp();
        due.end();
    }

    // Version 1 has the given number of things, of kinds 0 to 4 in turn, whose field 0 is 10 more
    // than their number; session 0 made it.
    private static ModelMerge withThings(int things) {
        ModelMerge x = new ModelMerge();
        x.session(0, 0);
        for (int thing = 0; thing < things; thing++) {
            x.make(0, thing % 5);
            x.set(0, thing, 0, 10 + thing);
        }
        x.join(0);
        return x;
    }

    private static void promise10JoinsWithoutConflict() {
        ModelMerge x = withThings(2);
        x.session(1, 1);
        x.session(2, 1);
        x.set(1, 0, 1, 5);
        x.set(2, 0, 2, 6);
        int made = x.make(2, 3);
        due.answer("join", 0, () -> x.join(1));
        due.answer("join beside it", 0, () -> x.join(2));
        due.answer("versions", 4, () -> x.count(0));
        due.answer("MINE stays", 5, () -> x.at(3, 0, 1));
        due.answer("THEIRS comes", 6, () -> x.at(3, 0, 2));
        due.answer("what nobody changed", 10, () -> x.at(3, 0, 0));
        due.answer("what was made", 1, () -> x.there(3, made, 0));
        due.answer("the version before is as it was", 0, () -> x.at(2, 0, 2));
        due.answer("over", 2, () -> x.told(2, 0));
        due.answer("its version", 3, () -> x.told(2, 5));
        x.session(3, 0);
        due.answer("join of nothing from version 0", 0, () -> x.join(3));
        due.answer("drops nothing", 1, () -> x.there(4, 0, 0));
    }

    private static void promise10Things() {
        ModelMerge x = withThings(5);
        x.session(1, 1);
        x.session(2, 1);
        x.drop(1, 0);
        x.drop(2, 0);
        x.drop(1, 1);
        x.drop(2, 2);
        x.drop(1, 3);
        x.set(2, 3, 0, 13);
        x.drop(2, 4);
        x.set(1, 4, 0, 99);
        x.set(1, 4, 0, 14);
        int mine = x.make(1, 0);
        int theirs = x.make(2, 0);
        due.answer("join", 0, () -> x.join(1));
        due.answer("none of these is a conflict", 0, () -> x.join(2));
        due.answer("both dropped it", 0, () -> x.there(3, 0, 0));
        due.answer("MINE dropped it", 0, () -> x.there(3, 1, 0));
        due.answer("THEIRS dropped it", 0, () -> x.there(3, 2, 0));
        due.answer("MINE dropped, THEIRS set it to what it was", 0, () -> x.there(3, 3, 0));
        due.answer("THEIRS dropped, MINE set it there and back", 0, () -> x.there(3, 4, 0));
        due.answer("MINE made it", 1, () -> x.there(3, mine, 0));
        due.answer("THEIRS made it", 1, () -> x.there(3, theirs, 0));
    }

    private static void promise10Fields() {
        ModelMerge x = withThings(1);
        x.session(1, 1);
        x.session(2, 1);
        x.set(1, 0, 0, 20);
        x.set(2, 0, 0, 20);
        x.set(1, 0, 1, 1);
        x.set(2, 0, 1, 0);
        x.set(1, 0, 2, 0);
        x.set(2, 0, 2, 2);
        x.set(1, 0, 3, 3);
        x.set(2, 0, 3, 4);
        x.join(1);
        due.answer("one field alone is a conflict", 1, () -> x.join(2));
        due.answer("which", 3, () -> x.conflict(0, 1));
        x.settle(0, 1);
        due.answer("both to the same", 20, () -> x.at(3, 0, 0));
        due.answer("MINE alone", 1, () -> x.at(3, 0, 1));
        due.answer("THEIRS alone", 2, () -> x.at(3, 0, 2));
        due.answer("settled", 4, () -> x.at(3, 0, 3));
        due.answer("nobody", 0, () -> x.at(3, 0, 4));
    }

    private static void promise10Refusals() {
        ModelMerge x = withThings(1);
        due.illegalState("join again", () -> x.join(0));
        for (int session : new int[] {-1, 1, 20, MAX, MIN}) {
            due.illegalArgument("join of session " + session, () -> x.join(session));
        }
        x.session(1, 1);
        x.session(2, 1);
        x.session(3, 1);
        x.set(1, 0, 0, 1);
        x.set(2, 0, 0, 2);
        x.join(1);
        due.answer("a conflict", 1, () -> x.join(2));
        due.illegalState("the pending one", () -> x.join(2));
        due.answer("another one", ModelMerge.BUSY, () -> x.join(3));
        due.illegalState("not open is ahead of BUSY", () -> x.join(1));
        due.illegalArgument("no such session is ahead of BUSY", () -> x.join(4));
        due.answer("it is open still", 0, () -> x.told(3, 0));
        due.answer("no version came", 3, () -> x.count(0));
        x.settle(0, 0);
        due.answer("then it joins", 0, () -> x.join(3));
    }

    private static void promise10JoinsTheMomentItStandsAt() {
        ModelMerge x = withThings(1);
        x.session(1, 1);
        x.set(1, 0, 0, 5);
        x.set(1, 0, 1, 6);
        x.drop(1, 0);
        x.undo(1);
        x.undo(1);
        x.lock(0, 9);
        due.answer("join", 0, () -> x.join(1));
        due.answer("what stands", 5, () -> x.at(2, 0, 0));
        due.answer("what is undone", 0, () -> x.at(2, 0, 1));
        due.answer("the session's state stays", 5, () -> x.now(1, 0, 0));
    }

    // Session 2 has these conflicts, in this order: things 0 (MINE dropped) and 1 (THEIRS
    // dropped) as a whole, fields 1 and 4 of thing 2.
    private static ModelMerge withConflicts() {
        ModelMerge x = withThings(4);
        x.session(1, 1);
        x.session(2, 1);
        x.set(2, 2, 4, 42);
        x.set(2, 2, 1, -21);
        x.drop(2, 1);
        x.set(2, 0, 3, 7);
        x.set(2, 3, 0, 33);
        x.set(1, 2, 1, 12);
        x.set(1, 2, 4, 24);
        x.set(1, 1, 2, 8);
        x.drop(1, 0);
        x.set(1, 3, 1, 34);
        x.join(1);
        return x;
    }

    private static void promise11Conflict() {
        ModelMerge x = withConflicts();
        due.answer("join", 4, () -> x.join(2));
        int[][] want = {
            {0, ModelMerge.NONE, 0, 1, ModelMerge.NONE},
            {1, ModelMerge.NONE, 1, 0, ModelMerge.NONE},
            {2, 1, 12, -21, ModelMerge.NONE},
            {2, 4, 24, 42, ModelMerge.NONE},
        };
        for (int k = 0; k < 4; k++) {
            for (int what = 0; what < 5; what++) {
                int kk = k;
                int ww = what;
                due.answer("conflict " + k + ", " + what, want[k][what], () -> x.conflict(kk, ww));
            }
        }
        x.settle(2, 1);
        due.answer("settled for THEIRS", 1, () -> x.conflict(2, 4));
        due.answer("the others are not", ModelMerge.NONE, () -> x.conflict(3, 4));
        x.settle(2, 0);
        due.answer("settled for MINE", 0, () -> x.conflict(2, 4));
        due.answer("MINE is as it was", 12, () -> x.conflict(2, 2));
    }

    private static void promise11Refusals() {
        ModelMerge x = withConflicts();
        due.illegalState("nothing is pending", () -> x.conflict(0, 0));
        due.illegalState("nor is a high one", () -> x.conflict(MAX, 0));
        due.illegalArgument("a wrong what is ahead", () -> x.conflict(0, 5));
        due.illegalArgument("k below 0 is ahead", () -> x.conflict(-1, 0));
        x.join(2);
        for (int k : new int[] {-1, 4, 300, MAX, MIN}) {
            due.illegalArgument("conflict " + k, () -> x.conflict(k, 0));
        }
        for (int what : new int[] {-1, 5, MAX, MIN}) {
            due.illegalArgument("what " + what, () -> x.conflict(0, what));
        }
        x.giveUp();
        due.illegalState("nothing is pending again", () -> x.conflict(0, 0));
    }

    private static void promise12Settle() {
        ModelMerge x = withConflicts();
        x.join(2);
        due.answer("the last one first", 3, () -> x.settle(3, 1));
        due.answer("anew, the same", 3, () -> x.settle(3, 1));
        due.answer("anew, the other", 3, () -> x.settle(3, 0));
        due.answer("field 1", 2, () -> x.settle(2, 1));
        due.answer("thing 0", 1, () -> x.settle(0, 1));
        due.answer("no version yet", 3, () -> x.count(0));
        due.answer("pending yet", 1, () -> x.told(2, 0));
        due.answer("thing 1", 0, () -> x.settle(1, 0));
        due.answer("the version came", 4, () -> x.count(0));
        due.answer("over", 2, () -> x.told(2, 0));
        due.answer("its version", 3, () -> x.told(2, 5));
        due.answer("of this session", 2, () -> x.author(3));
        due.answer("field 1 of THEIRS", -21, () -> x.at(3, 2, 1));
        due.answer("field 4 of MINE", 24, () -> x.at(3, 2, 4));
        due.answer("thing 0 of THEIRS", 7, () -> x.at(3, 0, 3));
        due.answer("thing 1 of MINE", 8, () -> x.at(3, 1, 2));
        due.answer("no conflict: THEIRS", 33, () -> x.at(3, 3, 0));
        due.answer("no conflict: MINE", 34, () -> x.at(3, 3, 1));
        x.session(5, 3);
        due.answer("another one joins now", 0, () -> x.join(3));
    }

    private static void promise12WholeThings() {
        ModelMerge x = withConflicts();
        x.join(2);
        x.settle(0, 0);
        x.settle(1, 1);
        x.settle(2, 0);
        due.answer("the last", 0, () -> x.settle(3, 1));
        due.answer("MINE dropped thing 0", 0, () -> x.there(3, 0, 0));
        due.answer("THEIRS dropped thing 1", 0, () -> x.there(3, 1, 0));
        due.answer("field 1 of MINE", 12, () -> x.at(3, 2, 1));
        due.answer("field 4 of THEIRS", 42, () -> x.at(3, 2, 4));

        ModelMerge y = withConflicts();
        y.join(2);
        y.settle(0, 1);
        y.settle(1, 0);
        y.settle(2, 0);
        y.settle(3, 0);
        due.answer("as a whole in THEIRS: changed", 7, () -> y.at(3, 0, 3));
        due.answer("as a whole in THEIRS: not changed", 10, () -> y.at(3, 0, 0));
        due.answer("as a whole in MINE: changed", 8, () -> y.at(3, 1, 2));
        due.answer("as a whole in MINE: not changed", 11, () -> y.at(3, 1, 0));
    }

    private static void promise12Refusals() {
        ModelMerge x = withConflicts();
        due.illegalState("nothing is pending", () -> x.settle(0, 0));
        due.illegalArgument("a wrong side is ahead", () -> x.settle(0, 2));
        due.illegalArgument("k below 0 is ahead", () -> x.settle(-1, 0));
        x.join(2);
        for (int k : new int[] {-1, 4, 300, MAX, MIN}) {
            due.illegalArgument("settle " + k, () -> x.settle(k, 0));
        }
        for (int side : new int[] {-1, 2, MAX, MIN}) {
            due.illegalArgument("side " + side, () -> x.settle(0, side));
        }
        due.answer("none was settled", ModelMerge.NONE, () -> x.conflict(0, 4));
        for (int k = 0; k < 4; k++) {
            x.settle(k, 0);
        }
        due.illegalState("behind the last one", () -> x.settle(0, 0));
    }

    private static void promise13GiveUp() {
        ModelMerge x = withConflicts();
        due.illegalState("nothing is pending", x::giveUp);
        x.join(2);
        x.settle(0, 1);
        x.settle(1, 1);
        due.answer("give up", 2, x::giveUp);
        due.answer("open again", 0, () -> x.told(2, 0));
        due.answer("no version", ModelMerge.NONE, () -> x.told(2, 5));
        due.answer("none came", 3, () -> x.count(0));
        due.illegalState("give up again", x::giveUp);
        due.answer("the rest of it stays", 33, () -> x.now(2, 3, 0));
        due.answer("join again", 4, () -> x.join(2));
        due.answer("settlings are forgotten", ModelMerge.NONE, () -> x.conflict(0, 4));
        due.answer("all are left", 3, () -> x.settle(1, 1));
        x.giveUp();
        x.session(6, 2);
        due.answer("another one joins ahead", 0, () -> x.join(3));
        due.answer("then this one", 4, () -> x.join(2));
        for (int k = 0; k < 4; k++) {
            x.settle(k, 1);
        }
        due.illegalState("it is over", x::giveUp);
    }
}
