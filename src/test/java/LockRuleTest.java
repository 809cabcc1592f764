/** Promises 8 and 9: lock, rule. */
public final class LockRuleTest {
    private static final int MAX = Integer.MAX_VALUE;
    private static final int MIN = Integer.MIN_VALUE;
    private static final Due due = new Due("LockRuleTest");

    public static void main(String[] args) {
        promise8Lock();
        promise8WhatALockStops();
        promise8WrongNumbers();
        promise9Rule();
        promise9TenRules();
        due.end();
    }

    private static void promise8Lock() {
        ModelMerge x = new ModelMerge();
        x.session(3, 0);
        x.make(0, 0);
        x.make(0, 0);
        due.answer("unlock what is not locked", ModelMerge.NONE, () -> x.lock(0, ModelMerge.NONE));
        due.answer("lock", ModelMerge.NONE, () -> x.lock(0, 0));
        due.answer("person 0 had it", 0, () -> x.lock(0, 9));
        due.answer("the same one again", 9, () -> x.lock(0, 9));
        due.answer("the other thing is free", ModelMerge.NONE, () -> x.lock(1, 3));
        due.answer("unlock", 9, () -> x.lock(0, ModelMerge.NONE));
        due.answer("it is free", ModelMerge.NONE, () -> x.lock(0, 1));
        x.drop(0, 1);
        due.answer("a dropped thing is locked too", 3, () -> x.lock(1, 4));
    }

    private static void promise8WhatALockStops() {
        ModelMerge x = new ModelMerge();
        x.session(3, 0);
        x.make(0, 0);
        x.join(0);
        x.session(3, 1);
        x.session(4, 1);
        x.lock(0, 3);
        due.answer("its person sets", 1, () -> x.set(1, 0, 0, 1));
        due.answer("another one does not", ModelMerge.LOCKED, () -> x.set(2, 0, 0, 1));
        due.answer("nor drops", ModelMerge.LOCKED, () -> x.drop(2, 0));
        due.answer("no moment comes", 1, () -> x.told(2, 4));
        x.lock(0, 4);
        due.answer("now it is the other way", ModelMerge.LOCKED, () -> x.set(1, 0, 0, 2));
        due.answer("the other one sets", 1, () -> x.set(2, 0, 1, 2));
        due.answer("undo asks for no lock", 0, () -> x.undo(1));
        due.answer("nor does redo", 1, () -> x.redo(1));
        due.answer("nor does joining", 0, () -> x.join(1));
        x.lock(0, ModelMerge.NONE);
        due.answer("free for all", 2, () -> x.drop(2, 0));
    }

    private static void promise8WrongNumbers() {
        ModelMerge x = new ModelMerge();
        due.illegalArgument("no thing yet", () -> x.lock(0, 0));
        x.session(0, 0);
        x.make(0, 0);
        for (int thing : new int[] {-1, 1, 59, 60, MAX, MIN}) {
            due.illegalArgument("lock thing " + thing, () -> x.lock(thing, 0));
            due.illegalArgument("unlock thing " + thing, () -> x.lock(thing, ModelMerge.NONE));
        }
        for (int person : new int[] {-2, 10, MAX, MIN}) {
            due.illegalArgument("lock by person " + person, () -> x.lock(0, person));
        }
        due.answer("nothing was locked", ModelMerge.NONE, () -> x.lock(0, ModelMerge.NONE));
    }

    private static void promise9Rule() {
        ModelMerge x = new ModelMerge();
        due.answer("rule 0", 0, () -> x.rule(0, 0, 4));
        due.answer("rule 1, of one kind", 1, () -> x.rule(4, 4, 4));
        due.answer("the same rule again", 2, () -> x.rule(4, 4, 4));
        for (int wrong : new int[] {-1, 5, MAX, MIN}) {
            due.illegalArgument("rule for kind " + wrong, () -> x.rule(wrong, 0, 0));
            due.illegalArgument("rule for field " + wrong, () -> x.rule(0, wrong, 0));
            due.illegalArgument("rule to kind " + wrong, () -> x.rule(0, 0, wrong));
        }
        due.answer("three rules", 3, () -> x.count(3));
    }

    private static void promise9TenRules() {
        ModelMerge x = new ModelMerge();
        for (int i = 0; i < 10; i++) {
            int number = i;
            due.answer("rule " + i, number, () -> x.rule(number % 5, 0, 1));
        }
        due.illegalState("an eleventh rule", () -> x.rule(0, 0, 1));
        due.illegalArgument("a wrong kind is ahead of that", () -> x.rule(5, 0, 1));
        due.illegalArgument("a wrong field too", () -> x.rule(0, -1, 1));
        due.illegalArgument("and a wrong other kind", () -> x.rule(0, 0, 5));
        due.answer("ten rules", 10, () -> x.count(3));
    }
}
