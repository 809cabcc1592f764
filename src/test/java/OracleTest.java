import java.util.Arrays;

/** Long runs of calls, right and wrong ones, whose every answer must be that of PlainModel. */
public final class OracleTest {
    private static final int RUNS = 3000;
    private static final int CALLS = 512;
    private static final Due due = new Due("OracleTest");

    private static final String[] NAMES = {
        "session", "make", "set", "drop", "undo", "redo", "lock", "rule", "join", "conflict",
        "settle", "giveUp", "here", "now", "there", "at", "since", "told", "author", "count",
        "differs", "broken",
    };
    private static final int[] PARAMETERS = {
        2, 2, 4, 2, 1, 1, 2, 3, 1, 2, 2, 0, 2, 3, 3, 3, 3, 2, 1, 1, 3, 2,
    };
    // How often each call comes, so that runs reach conflicts and limits and ask for what came.
    private static final int[] OFTEN = {
        10, 8, 70, 6, 12, 10, 4, 3, 8, 2, 2, 1, 8, 14, 16, 14, 16, 12, 4, 3, 14, 14,
    };
    // Every run starts with a version that has five things: call, and its first two arguments.
    private static final int[][] START = {
        {0, 0, 0}, {1, 0, 0}, {1, 0, 1}, {1, 0, 2}, {1, 0, 3}, {1, 0, 4}, {8, 0, 0}, {0, 1, 1},
    };
    private static final int[] WILD = {
        -1, -2, 5, 6, 10, 20, 40, 59, 60, 61, 300, Integer.MAX_VALUE, Integer.MIN_VALUE,
    };

    // Numbers that look random and are the same in every run of this test.
    private static long seed = 20261115L;

    private static int next(int bound) {
        seed = seed * 6364136223846793005L + 1442695040888963407L;
        return (int) ((seed >>> 33) % bound);
    }

    public static void main(String[] args) {
        for (int run = 0; run < RUNS && due.wrongSoFar() == 0; run++) {
            compareRun(run);
        }
        due.end();
    }

    // Styles: 0 few things and many sessions, for conflicts; 1 all things; 2 one session that is
    // changed up to its last moment.
    private static void compareRun(int run) {
        ModelMerge x = new ModelMerge();
        PlainModel plain = new PlainModel();
        int style = run % 3;
        for (int call = 0; call < CALLS && due.wrongSoFar() == 0; call++) {
            int which = call < START.length ? START[call][0] : pick(plain, style);
            int[] a = call < START.length ? startArguments(call) : arguments(which, plain, style);
            Call asked = new Call(NAMES[which], Arrays.copyOf(a, PARAMETERS[which]));
            String want = asked.outcome(plain);
            String name = "run " + run + ", call " + call + ": " + asked;
            due.compare(name, want, asked.outcome(x));
        }
    }

    private static int[] startArguments(int call) {
        return new int[] {START[call][1], START[call][2], 0, 0};
    }

    private static boolean isPending(PlainModel plain) {
        for (int session = 0; session < plain.count(2); session++) {
            if (plain.told(session, 0) == 1) {
                return true;
            }
        }
        return false;
    }

    private static int pick(PlainModel plain, int style) {
        if (isPending(plain) && next(3) == 0) {
            return next(30) == 0 ? 11 : next(3) == 0 ? 10 : 9;
        }
        int all = 0;
        for (int often : OFTEN) {
            all += often;
        }
        int left = next(all);
        int which = 0;
        while (left >= OFTEN[which]) {
            left -= OFTEN[which];
            which++;
        }
        boolean tooEarly = style == 2 && (which == 0 || which == 8) && next(30) != 0;
        return tooEarly ? 2 : which;
    }

    private static int[] arguments(int which, PlainModel plain, int style) {
        int[] a = new int[4];
        for (int i = 0; i < PARAMETERS[which]; i++) {
            a[i] = next(40) == 0 ? WILD[next(WILD.length)] : fitting(which, i, plain, style);
        }
        return a;
    }

    private static int recent(int count) {
        int from = Math.max(0, count - 4);
        return next(10) == 0 ? next(count + 1) : from + next(Math.max(1, count - from));
    }

    private static int someSession(PlainModel plain) {
        int session = recent(plain.count(2));
        for (int tries = 0; tries < 6 && session < plain.count(2); tries++) {
            if (plain.told(session, 0) == 0) {
                return session;
            }
            session = recent(plain.count(2));
        }
        return session;
    }

    private static int fitting(int which, int i, PlainModel plain, int style) {
        int versions = plain.count(0);
        int thing = style == 1 ? recent(plain.count(1)) : next(5);
        int session = someSession(plain);
        switch (NAMES[which]) {
            case "session":
                return i == 0 ? next(3) : recent(versions);
            case "make":
                return i == 0 ? session : next(5);
            case "set":
                return i == 0 ? session : i == 1 ? thing : i == 2 ? next(5) : next(4);
            case "drop":
            case "here":
                return i == 0 ? session : thing;
            case "now":
                return i == 0 ? session : i == 1 ? thing : next(5);
            case "undo":
            case "redo":
            case "join":
                return session;
            case "lock":
                return i == 0 ? thing : next(3) == 0 ? next(3) : -1;
            case "rule":
                return next(5);
            case "conflict":
                return i == 0 ? next(3) : next(5);
            case "settle":
                return i == 0 ? next(3) : next(2);
            case "there":
                return i == 0 ? recent(versions) : i == 1 ? thing : next(3);
            case "at":
            case "since":
                return i == 0 ? recent(versions) : i == 1 ? thing : next(5);
            case "told":
                return i == 0 ? session : next(6);
            case "author":
                return recent(versions);
            case "count":
                return next(4);
            case "differs":
                return i < 2 ? recent(versions) : next(6);
            default:
                return i == 0 ? recent(versions) : next(8);
        }
    }
}
