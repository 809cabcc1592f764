/** Promises 14 to 23: here, now, there, at, since, told, author, count, differs, broken. */
public final class ToldTest {
    private static final int MAX = Integer.MAX_VALUE;
    private static final int MIN = Integer.MIN_VALUE;
    private static final int NONE = ModelMerge.NONE;
    private static final Due due = new Due("ToldTest");

    public static void main(String[] args) {
        promise14Here();
        promise15Now();
        promise16There();
        promise17At();
        promise18Since();
        promise19Told();
        promise20Author();
        promise21Count();
        promise22Differs();
        promise23Broken();
        promise23RulesInOrder();
        due.end();
    }

    // Versions 1 (things 0, 1, 2 of kinds 1, 2, 3), 2 (thing 0 set, thing 1 dropped), and
    // 3 (nothing); thing 3, of kind 4, is in open session 3 alone.
    private static ModelMerge sample() {
        ModelMerge x = new ModelMerge();
        x.session(7, 0);
        x.make(0, 1);
        x.make(0, 2);
        x.make(0, 3);
        x.set(0, 0, 0, 100);
        x.set(0, 2, 4, 200);
        x.join(0);
        x.session(8, 1);
        x.set(1, 0, 0, 101);
        x.set(1, 0, 3, 103);
        x.drop(1, 1);
        x.join(1);
        x.session(9, 2);
        x.join(2);
        x.session(9, 1);
        x.make(3, 4);
        return x;
    }

    private static void promise14Here() {
        ModelMerge x = sample();
        due.answer("in a session that is over", 1, () -> x.here(0, 0));
        due.answer("dropped", 0, () -> x.here(1, 1));
        due.answer("not dropped elsewhere", 1, () -> x.here(0, 1));
        due.answer("not here in a later base", 0, () -> x.here(2, 1));
        due.answer("here in an older base", 1, () -> x.here(3, 1));
        due.answer("made here", 1, () -> x.here(3, 3));
        due.answer("not made there", 0, () -> x.here(0, 3));
        for (int session : new int[] {-1, 4, 20, MAX, MIN}) {
            due.illegalArgument("session " + session, () -> x.here(session, 0));
        }
        for (int thing : new int[] {-1, 4, 60, MAX, MIN}) {
            due.illegalArgument("thing " + thing, () -> x.here(0, thing));
        }
    }

    private static void promise15Now() {
        ModelMerge x = sample();
        due.answer("as it was set", 100, () -> x.now(0, 0, 0));
        due.answer("as it was set later", 101, () -> x.now(1, 0, 0));
        due.answer("of the base", 200, () -> x.now(3, 2, 4));
        due.answer("of a newer base", 103, () -> x.now(2, 0, 3));
        due.answer("never set", 0, () -> x.now(3, 3, 4));
        due.illegalArgument("dropped", () -> x.now(1, 1, 0));
        due.illegalArgument("never there", () -> x.now(0, 3, 0));
        for (int session : new int[] {-1, 4, 20, MAX, MIN}) {
            due.illegalArgument("session " + session, () -> x.now(session, 0, 0));
        }
        for (int thing : new int[] {-1, 4, 60, MAX, MIN}) {
            due.illegalArgument("thing " + thing, () -> x.now(0, thing, 0));
        }
        for (int field : new int[] {-1, 5, MAX, MIN}) {
            due.illegalArgument("field " + field, () -> x.now(0, 0, field));
        }
    }

    private static void promise16There() {
        ModelMerge x = sample();
        int[][] want = {
            // there, how many fields differ: of things 0 to 3
            {0, 0, 0, 0, 0, 0, 0, 0},
            {1, 5, 1, 5, 1, 5, 0, 0},
            {1, 2, 0, 0, 1, 0, 0, 0},
            {1, 0, 0, 0, 1, 0, 0, 0},
        };
        for (int version = 0; version < 4; version++) {
            for (int thing = 0; thing < 4; thing++) {
                int v = version;
                int t = thing;
                String where = " of " + thing + " in " + version;
                due.answer("there" + where, want[v][2 * t], () -> x.there(v, t, 0));
                due.answer("kind" + where, 1 + t, () -> x.there(v, t, 1));
                due.answer("differ" + where, want[v][2 * t + 1], () -> x.there(v, t, 2));
            }
        }
        for (int version : new int[] {-1, 4, 40, MAX, MIN}) {
            due.illegalArgument("version " + version, () -> x.there(version, 0, 0));
        }
        for (int thing : new int[] {-1, 4, 60, MAX, MIN}) {
            due.illegalArgument("thing " + thing, () -> x.there(1, thing, 0));
        }
        for (int what : new int[] {-1, 3, MAX, MIN}) {
            due.illegalArgument("what " + what, () -> x.there(1, 0, what));
        }
    }

    private static void promise17At() {
        ModelMerge x = sample();
        due.answer("version 1", 100, () -> x.at(1, 0, 0));
        due.answer("version 2", 101, () -> x.at(2, 0, 0));
        due.answer("version 3", 101, () -> x.at(3, 0, 0));
        due.answer("another field", 200, () -> x.at(3, 2, 4));
        due.answer("never set", 0, () -> x.at(1, 1, 4));
        due.illegalArgument("dropped", () -> x.at(2, 1, 4));
        due.illegalArgument("not there yet", () -> x.at(0, 0, 0));
        due.illegalArgument("never joined", () -> x.at(3, 3, 0));
        wrongVersionThingField("at", x, x::at);
    }

    private interface ThreeNumbers {
        int answer(int version, int thing, int field);
    }

    private static void wrongVersionThingField(String name, ModelMerge x, ThreeNumbers call) {
        for (int version : new int[] {-1, 4, 40, MAX, MIN}) {
            due.illegalArgument(name + " version " + version, () -> call.answer(version, 0, 0));
        }
        for (int thing : new int[] {-1, 4, 60, MAX, MIN}) {
            due.illegalArgument(name + " thing " + thing, () -> call.answer(1, thing, 0));
        }
        for (int field : new int[] {-1, 5, MAX, MIN}) {
            due.illegalArgument(name + " field " + field, () -> call.answer(1, 0, field));
        }
    }

    private static void promise18Since() {
        ModelMerge x = sample();
        due.answer("it came to be there", 1, () -> x.since(1, 0, 4));
        due.answer("it was changed", 2, () -> x.since(2, 0, 0));
        due.answer("and stays so", 2, () -> x.since(3, 0, 0));
        due.answer("it was not changed", 1, () -> x.since(3, 0, 1));
        due.illegalArgument("dropped", () -> x.since(2, 1, 0));
        due.illegalArgument("not there yet", () -> x.since(0, 0, 0));
        due.illegalArgument("never joined", () -> x.since(3, 3, 0));
        wrongVersionThingField("since", x, x::since);
        x.session(1, 1);
        x.set(4, 0, 0, 101);
        x.set(4, 0, 1, 0);
        x.set(4, 0, 3, 1);
        x.set(4, 1, 2, 2);
        x.set(4, 2, 4, 201);
        due.answer("two conflicts", 2, () -> x.join(4));
        x.settle(0, 0);
        x.settle(1, 1);
        due.answer("both changed it to the same", 2, () -> x.since(4, 0, 0));
        due.answer("set to what it was", 1, () -> x.since(4, 0, 1));
        due.answer("settled for MINE", 2, () -> x.since(4, 0, 3));
        due.answer("THEIRS", 4, () -> x.since(4, 2, 4));
        due.answer("it is there again, changed", 4, () -> x.since(4, 1, 2));
        due.answer("it is there again, not changed", 4, () -> x.since(4, 1, 0));
        due.answer("all five differ then", 5, () -> x.there(4, 1, 2));
        due.answer("an older version tells the same", 1, () -> x.since(1, 1, 0));
    }

    private static void promise19Told() {
        ModelMerge x = sample();
        int[][] want = {
            {2, 7, 0, 5, 6, 1},
            {2, 8, 1, 3, 4, 2},
            {2, 9, 2, 0, 1, 3},
            {0, 9, 1, 1, 2, NONE},
        };
        for (int session = 0; session < 4; session++) {
            for (int what = 0; what < 6; what++) {
                int s = session;
                int w = what;
                due.answer("told " + session + ", " + what, want[s][w], () -> x.told(s, w));
            }
        }
        x.undo(3);
        due.answer("undone: the moment", 0, () -> x.told(3, 3));
        due.answer("undone: the moments", 2, () -> x.told(3, 4));
        x.set(3, 0, 0, 5);
        x.join(3);
        due.answer("pending", 1, () -> x.told(3, 0));
        due.answer("pending: no version", NONE, () -> x.told(3, 5));
        for (int session : new int[] {-1, 4, 20, MAX, MIN}) {
            due.illegalArgument("session " + session, () -> x.told(session, 0));
        }
        for (int what : new int[] {-1, 6, MAX, MIN}) {
            due.illegalArgument("what " + what, () -> x.told(0, what));
        }
    }

    private static void promise20Author() {
        ModelMerge x = sample();
        x.session(0, 3);
        due.answer("join", 0, () -> x.join(4));
        due.answer("version 1", 0, () -> x.author(1));
        due.answer("version 3", 2, () -> x.author(3));
        due.answer("version 4, not of session 3", 4, () -> x.author(4));
        for (int version : new int[] {-1, 0, 5, 40, MAX, MIN}) {
            due.illegalArgument("version " + version, () -> x.author(version));
        }
    }

    private static void promise21Count() {
        ModelMerge x = sample();
        x.rule(0, 0, 0);
        x.rule(0, 0, 0);
        due.answer("versions", 4, () -> x.count(0));
        due.answer("things, one undone or not", 4, () -> x.count(1));
        due.answer("sessions", 4, () -> x.count(2));
        due.answer("rules", 2, () -> x.count(3));
        x.undo(3);
        due.answer("an undone thing counts", 4, () -> x.count(1));
        for (int what : new int[] {-1, 4, MAX, MIN}) {
            due.illegalArgument("what " + what, () -> x.count(what));
        }
    }

    private static void listed(String name, int[] want, ThreeNumbers call, int a, int b) {
        for (int i = 0; i <= want.length; i++) {
            int k = i;
            int due1 = k < want.length ? want[k] : NONE;
            due.answer(name + " " + a + ", " + b + ", " + k, due1, () -> call.answer(a, b, k));
        }
        due.answer(name + " far beyond", NONE, () -> call.answer(a, b, MAX));
        due.illegalArgument(name + " k below 0", () -> call.answer(a, b, -1));
        due.illegalArgument(name + " k far below 0", () -> call.answer(a, b, MIN));
    }

    private static void promise22Differs() {
        ModelMerge x = sample();
        listed("differs", new int[] {0, 5, 10}, x::differs, 0, 1);
        listed("differs", new int[] {0, 5, 10}, x::differs, 1, 0);
        listed("differs", new int[] {0, 3, 5}, x::differs, 1, 2);
        listed("differs", new int[] {0, 3, 5}, x::differs, 3, 1);
        listed("differs", new int[] {0, 10}, x::differs, 0, 3);
        listed("differs", new int[] {}, x::differs, 2, 3);
        listed("differs", new int[] {}, x::differs, 1, 1);
        for (int version : new int[] {-1, 4, 40, MAX, MIN}) {
            due.illegalArgument("differs A " + version, () -> x.differs(version, 0, 0));
            due.illegalArgument("differs B " + version, () -> x.differs(0, version, 0));
        }
    }

    private static void promise23Broken() {
        ModelMerge x = new ModelMerge();
        x.session(0, 0);
        x.make(0, 1);
        x.make(0, 2);
        x.make(0, 1);
        x.make(0, 1);
        x.make(0, 1);
        x.make(0, 1);
        x.set(0, 0, 3, 1);
        x.set(0, 2, 3, 2);
        x.set(0, 3, 3, -1);
        x.set(0, 4, 3, 60);
        x.set(0, 5, 3, MAX);
        x.join(0);
        x.session(0, 1);
        x.drop(1, 1);
        x.drop(1, 3);
        int made = x.make(1, 2);
        x.set(1, 4, 3, made);
        x.set(1, 5, 3, made + 1);
        x.join(1);
        listed("no rule", new int[] {}, (v, b, k) -> x.broken(v, k), 1, 0);
        due.answer("the rule", 0, () -> x.rule(1, 3, 2));
        listed("broken", new int[] {}, (v, b, k) -> x.broken(v, k), 0, 0);
        listed("broken", new int[] {2, 3, 4, 5}, (v, b, k) -> x.broken(v, k), 1, 0);
        listed("broken", new int[] {0, 2, 5}, (v, b, k) -> x.broken(v, k), 2, 0);
        for (int version : new int[] {-1, 3, 40, MAX, MIN}) {
            due.illegalArgument("broken in version " + version, () -> x.broken(version, 0));
        }
    }

    private static void promise23RulesInOrder() {
        ModelMerge x = new ModelMerge();
        x.session(0, 0);
        x.make(0, 0);
        x.make(0, 1);
        x.make(0, 0);
        x.set(0, 2, 1, 2);
        x.join(0);
        x.rule(1, 0, 1);
        x.rule(0, 0, 0);
        x.rule(0, 1, 1);
        x.rule(0, 1, 0);
        for (int i = 4; i < 9; i++) {
            x.rule(4, 0, 0);
        }
        x.rule(1, 4, 3);
        int[] want = {1, 120, 122, 541};
        listed("broken by rules", want, (v, b, k) -> x.broken(v, k), 1, 0);
    }
}
