/** Long runs of calls, right and wrong ones, whose every answer must be that of PlainModel. */
public final class OracleTest {
    private static final int RUNS = 3000;
    private static final int CALLS = 512;
    private static final Due due = new Due("OracleTest");

    private static final String[] NAMES = {
        "session", "make", "set", "drop", "undo", "redo", "lock", "rule", "join", "conflict",
        "settle", "giveUp", "here", "now", "there", "at", "since", "told", "author", "count",
        "differs", "broken",
    };
    private static final int[] PARAMETERS = {
        2, 2, 4, 2, 1, 1, 2, 3, 1, 2, 2, 0, 2, 3, 3, 3, 3, 2, 1, 1, 3, 2,
    };
    // How often each call comes, so that runs reach conflicts and limits and ask for what came.
    private static final int[] OFTEN = {
        12, 12, 60, 14, 10, 8, 4, 3, 12, 14, 16, 2, 8, 14, 16, 14, 16, 12, 4, 3, 14, 14,
    };
    private static final int[] WILD = {
        -1, -2, 5, 6, 10, 20, 40, 59, 60, 61, 300, Integer.MAX_VALUE, Integer.MIN_VALUE,
    };

    // Numbers that look random and are the same in every run of this test.
    private static long seed = 20261115L;

    private static int next(int bound) {
        seed = seed * 6364136223846793005L + 1442695040888963407L;
        return (int) ((seed >>> 33) % bound);
    }

    public static void main(String[] args) {
        for (int run = 0; run < RUNS && due.wrongSoFar() == 0; run++) {
            compareRun(run);
        }
        due.end();
    }

    private static void compareRun(int run) {
        ModelMerge x = new ModelMerge();
        PlainModel plain = new PlainModel();
        int style = run % 3;
        for (int call = 0; call < CALLS && due.wrongSoFar() == 0; call++) {
            int which = pick();
            int[] a = arguments(which, plain, style);
            String want = Due.outcome(() -> ask(plain, which, a));
            String got = Due.outcome(() -> ask(x, which, a));
            due.compare("run " + run + ", call " + call + ": " + text(which, a), want, got);
        }
    }

    private static int pick() {
        int all = 0;
        for (int often : OFTEN) {
            all += often;
        }
        int left = next(all);
        int which = 0;
        while (left >= OFTEN[which]) {
            left -= OFTEN[which];
            which++;
        }
        return which;
    }

    private static String text(int which, int[] a) {
        StringBuilder text = new StringBuilder(NAMES[which]).append('(');
        for (int i = 0; i < PARAMETERS[which]; i++) {
            text.append(i == 0 ? "" : ", ").append(a[i]);
        }
        return text.append(')').toString();
    }

    private static int[] arguments(int which, PlainModel plain, int style) {
        int[] a = new int[4];
        for (int i = 0; i < PARAMETERS[which]; i++) {
            a[i] = next(40) == 0 ? WILD[next(WILD.length)] : fitting(which, i, plain, style);
        }
        return a;
    }

    private static int recent(int count) {
        int from = Math.max(0, count - 4);
        return next(3) == 0 ? next(count + 1) : from + next(Math.max(1, count - from));
    }

    private static int fitting(int which, int i, PlainModel plain, int style) {
        int versions = plain.count(0);
        // Few things make more conflicts; many of them reach the limits.
        int thing = style == 0 ? next(5) : style == 1 ? recent(plain.count(1)) : next(3);
        int session = recent(plain.count(2));
        switch (NAMES[which]) {
            case "session":
                return i == 0 ? next(10) : recent(versions);
            case "make":
                return i == 0 ? session : next(5);
            case "set":
                return i == 0 ? session : i == 1 ? thing : i == 2 ? next(5) : next(4);
            case "drop":
            case "here":
                return i == 0 ? session : thing;
            case "now":
                return i == 0 ? session : i == 1 ? thing : next(5);
            case "undo":
            case "redo":
            case "join":
                return session;
            case "lock":
                return i == 0 ? thing : next(3) == 0 ? next(10) : -1;
            case "rule":
                return next(5);
            case "conflict":
                return i == 0 ? next(3) : next(5);
            case "settle":
                return i == 0 ? next(3) : next(2);
            case "there":
                return i == 0 ? recent(versions) : i == 1 ? thing : next(3);
            case "at":
            case "since":
                return i == 0 ? recent(versions) : i == 1 ? thing : next(5);
            case "told":
                return i == 0 ? session : next(6);
            case "author":
                return recent(versions);
            case "count":
                return next(4);
            case "differs":
                return i < 2 ? recent(versions) : next(6);
            default:
                return i == 0 ? recent(versions) : next(8);
        }
    }

    private static int ask(ModelMerge x, int which, int[] a) {
        switch (NAMES[which]) {
            case "session": return x.session(a[0], a[1]);
            case "make": return x.make(a[0], a[1]);
            case "set": return x.set(a[0], a[1], a[2], a[3]);
            case "drop": return x.drop(a[0], a[1]);
            case "undo": return x.undo(a[0]);
            case "redo": return x.redo(a[0]);
            case "lock": return x.lock(a[0], a[1]);
            case "rule": return x.rule(a[0], a[1], a[2]);
            case "join": return x.join(a[0]);
            case "conflict": return x.conflict(a[0], a[1]);
            case "settle": return x.settle(a[0], a[1]);
            case "giveUp": return x.giveUp();
            case "here": return x.here(a[0], a[1]);
            case "now": return x.now(a[0], a[1], a[2]);
            case "there": return x.there(a[0], a[1], a[2]);
            case "at": return x.at(a[0], a[1], a[2]);
            case "since": return x.since(a[0], a[1], a[2]);
            case "told": return x.told(a[0], a[1]);
            case "author": return x.author(a[0]);
            case "count": return x.count(a[0]);
            case "differs": return x.differs(a[0], a[1], a[2]);
            default: return x.broken(a[0], a[1]);
        }
    }

    private static int ask(PlainModel x, int which, int[] a) {
        switch (NAMES[which]) {
            case "session": return x.session(a[0], a[1]);
            case "make": return x.make(a[0], a[1]);
            case "set": return x.set(a[0], a[1], a[2], a[3]);
            case "drop": return x.drop(a[0], a[1]);
            case "undo": return x.undo(a[0]);
            case "redo": return x.redo(a[0]);
            case "lock": return x.lock(a[0], a[1]);
            case "rule": return x.rule(a[0], a[1], a[2]);
            case "join": return x.join(a[0]);
            case "conflict": return x.conflict(a[0], a[1]);
            case "settle": return x.settle(a[0], a[1]);
            case "giveUp": return x.giveUp();
            case "here": return x.here(a[0], a[1]);
            case "now": return x.now(a[0], a[1], a[2]);
            case "there": return x.there(a[0], a[1], a[2]);
            case "at": return x.at(a[0], a[1], a[2]);
            case "since": return x.since(a[0], a[1], a[2]);
            case "told": return x.told(a[0], a[1]);
            case "author": return x.author(a[0]);
            case "count": return x.count(a[0]);
            case "differs": return x.differs(a[0], a[1], a[2]);
            default: return x.broken(a[0], a[1]);
        }
    }
}
