/** Promises 14 to 23 at their bounds, each test with the sentence that it asks for ahead of it. */
public final class ToldBoundTest {
    private static final int MAX = Integer.MAX_VALUE;
    private static final int MIN = Integer.MIN_VALUE;
    private static final int NONE = ModelMerge.NONE;
    private static final Due due = new Due("ToldBoundTest");

    public static void main(String[] args) {
        promise14HereOrNot();
        promise15AlsoIfNotThere();
        promise15OverTellsItsOwn();
        promise16WhetherItIsThere();
        promise16HowManyFieldsDiffer();
        promise16ThereAgain();
        promise17AlsoIfNotThere();
        promise18SinceWhichVersion();
        promise18BothToTheSame();
        promise18ThereAgain();
        promise18UpToTheLastVersion();
        promise19OfASession();
        promise19AtItsBounds();
        promise20WhichSession();
        promise21HowMany();
        promise22ThereInOneAlone();
        promise22ThreeHundredDifferences();
        promise22LargeValues();
        promise23ByRulesThenNumbers();
        promise23SixHundredBroken();
        promise23OnlyThingsThatAreThere();
        due.end();
    }

    // Thing 0 is in versions 1 and 2, thing 1 in version 1 alone, thing 2 in version 2 alone;
    // thing 3 never joined, and the making of thing 4 is undone. Sessions: 0 and 1 are over, 2
    // is pending (it changed thing 0, which is a conflict of field 0), 3 is open.
    private static Run sample(String name) {
        Run x = new Run(due, name);
        x.does("session", 0, 0).does("make", 0, 0).does("make", 0, 1);
        x.does("set", 0, 0, 0, 3).does("set", 0, 0, 4, 4).does("join", 0);
        x.does("session", 1, 1).does("session", 2, 1).does("session", 9, 1);
        x.does("drop", 1, 1).does("make", 1, 2).does("set", 1, 0, 0, 5).does("join", 1);
        x.does("make", 3, 3).does("make", 3, 4).does("undo", 3);
        x.does("set", 2, 0, 0, 6).gives(1, "join", 2);
        return x;
    }

    // "Whether a thing is there in a session's state (1), or not (0). Illegal argument."
    private static void promise14HereOrNot() {
        Run x = sample("here");
        int[][] want = {{1, 1, 0, 0, 0}, {1, 0, 1, 0, 0}, {1, 1, 0, 0, 0}, {1, 1, 0, 1, 0}};
        for (int session = 0; session < 4; session++) {
            for (int thing = 0; thing < 5; thing++) {
                x.gives(want[session][thing], "here", session, thing);
            }
            x.illegalArgument("here", session, -1).illegalArgument("here", session, 5);
            x.illegalArgument("here", session, 59).illegalArgument("here", session, 60);
        }
        x.illegalArgument("here", 4, 0).illegalArgument("here", -1, 0);
        x.illegalArgument("here", MAX, MAX).illegalArgument("here", MIN, MIN);
    }

    // "A field in a session's state. Illegal argument: also if the thing is not there."
    private static void promise15AlsoIfNotThere() {
        Run x = sample("now");
        x.gives(3, "now", 0, 0, 0).gives(5, "now", 1, 0, 0).gives(6, "now", 2, 0, 0);
        x.gives(3, "now", 3, 0, 0).gives(4, "now", 3, 0, 4).gives(0, "now", 3, 3, 4);
        x.illegalArgument("now", 1, 1, 0).illegalArgument("now", 0, 2, 0);
        x.illegalArgument("now", 2, 3, 0).illegalArgument("now", 3, 4, 0);
        x.illegalArgument("now", 3, 5, 0).illegalArgument("now", 3, -1, 0);
        x.illegalArgument("now", 3, 0, 5).illegalArgument("now", 3, 0, -1);
        x.illegalArgument("now", 4, 0, 0).illegalArgument("now", -1, 0, 0);
        x.gives(2, "redo", 3).gives(0, "now", 3, 4, 4).gives(1, "undo", 3);
        x.illegalArgument("now", 3, 4, 4);
    }

    // "what = 0 whether it is there (1), 1 its kind (whether it is there or not)"
    private static void promise16WhetherItIsThere() {
        Run x = sample("there");
        int[][] want = {{0, 0, 0, 0, 0}, {1, 1, 0, 0, 0}, {1, 0, 1, 0, 0}};
        for (int version = 0; version < 3; version++) {
            for (int thing = 0; thing < 5; thing++) {
                x.gives(want[version][thing], "there", version, thing, 0);
                x.gives(thing, "there", version, thing, 1);
            }
            x.illegalArgument("there", version, 5, 0).illegalArgument("there", version, -1, 1);
            x.illegalArgument("there", version, 0, 3).illegalArgument("there", version, 0, -1);
        }
        x.illegalArgument("there", 3, 0, 0).illegalArgument("there", -1, 0, 1);
        x.illegalArgument("there", 3, 0, 2).illegalArgument("there", 2, 5, 2);
    }

    // "2 how many fields of it differ from those in the version before (all 5, if it was not
    // there then; 0 if it is not there now)": from none to all of them.
    private static void promise16HowManyFieldsDiffer() {
        Run x = new Run(due, "how many fields differ");
        x.does("session", 0, 0).does("make", 0, 0).does("make", 0, 0).gives(0, "join", 0);
        x.gives(0, "there", 0, 0, 2).gives(5, "there", 1, 0, 2);
        for (int many = 0; many < 6; many++) {
            int session = many + 1;
            x.does("session", 0, session);
            for (int i = 0; i < many; i++) {
                x.does("set", session, 0, 4 - i, many);
            }
            x.gives(0, "join", session).gives(many, "there", session + 1, 0, 2);
            x.gives(0, "there", session + 1, 1, 2);
        }
        x.does("session", 0, 7).does("set", 7, 0, 0, 5).does("set", 7, 0, 1, MIN);
        x.gives(0, "join", 7).gives(1, "there", 8, 0, 2);
        x.does("session", 0, 8).does("drop", 8, 0).gives(0, "join", 8);
        x.gives(0, "there", 9, 0, 2).gives(1, "there", 8, 0, 2);
    }

    // Thing 0, with field 2 set, is dropped in version 2, and comes again in version 3, where
    // field 0 is set.
    private static Run thereAgain(String name) {
        Run x = new Run(due, name);
        x.does("session", 0, 0).does("make", 0, 0).does("set", 0, 0, 2, 9).does("join", 0);
        x.does("session", 0, 1).does("session", 0, 1);
        x.does("drop", 1, 0).does("set", 2, 0, 0, 1).gives(0, "join", 1);
        x.gives(1, "join", 2).gives(0, "settle", 0, 1);
        return x;
    }

    private static void promise16ThereAgain() {
        Run x = thereAgain("there again: fields that differ");
        x.gives(5, "there", 1, 0, 2).gives(0, "there", 2, 0, 2).gives(5, "there", 3, 0, 2);
        x.does("session", 0, 3).gives(0, "join", 3).gives(0, "there", 4, 0, 2);
    }

    // "Its state is that of the moment at which it stands": a session that is over tells its own
    // state, not the one that was joined; versions and sessions that were there stay as they are.
    private static void promise15OverTellsItsOwn() {
        Run x = new Run(due, "now, in a session that is over");
        x.does("session", 0, 0).does("make", 0, 0).does("make", 0, 0).does("join", 0);
        x.does("session", 0, 1).does("session", 0, 1).does("session", 0, 1);
        x.does("set", 1, 0, 0, 1).does("set", 1, 0, 1, 1).does("drop", 1, 1).does("make", 1, 0);
        x.does("set", 2, 0, 0, 2).does("set", 2, 0, 2, 2).gives(0, "join", 1).gives(1, "join", 2);
        x.gives(0, "settle", 0, 0).gives(0, "join", 3);
        int[][] want = {{0, 0, 0}, {1, 1, 0}, {2, 0, 2}, {0, 0, 0}};
        for (int session = 0; session < 4; session++) {
            for (int field = 0; field < 3; field++) {
                x.gives(want[session][field], "now", session, 0, field);
            }
            x.gives(session == 1 ? 0 : 1, "here", session, 1);
            x.gives(session == 1 ? 1 : 0, "here", session, 2);
        }
        int[][] versions = {{0, 0, 0}, {1, 1, 0}, {1, 1, 2}, {1, 1, 2}};
        for (int version = 1; version < 5; version++) {
            for (int field = 0; field < 3; field++) {
                x.gives(versions[version - 1][field], "at", version, 0, field);
            }
        }
    }

    // "A field in a version. Illegal argument: also if the thing is not there."
    private static void promise17AlsoIfNotThere() {
        Run x = sample("at");
        x.gives(3, "at", 1, 0, 0).gives(5, "at", 2, 0, 0).gives(4, "at", 2, 0, 4);
        x.gives(0, "at", 1, 1, 0).gives(0, "at", 2, 2, 4);
        for (String call : new String[] {"at", "since"}) {
            x.illegalArgument(call, 0, 0, 0).illegalArgument(call, 2, 1, 0);
            x.illegalArgument(call, 1, 2, 0).illegalArgument(call, 2, 3, 0);
            x.illegalArgument(call, 2, 4, 0).illegalArgument(call, 2, 5, 0);
            x.illegalArgument(call, 2, -1, 0).illegalArgument(call, 2, 0, 5);
            x.illegalArgument(call, 2, 0, -1).illegalArgument(call, 3, 0, 0);
            x.illegalArgument(call, -1, 0, 0).illegalArgument(call, 40, 0, 0);
        }
    }

    // "In which version the value came that a field has in a version."
    private static void promise18SinceWhichVersion() {
        Run x = sample("since");
        x.gives(1, "since", 1, 0, 0).gives(2, "since", 2, 0, 0).gives(1, "since", 2, 0, 4);
        x.gives(1, "since", 1, 1, 0).gives(2, "since", 2, 2, 0);
        x.wouldGive("0", "settle", 0, 0).wouldGive("0", "settle", 0, 1);
        x.gives(0, "settle", 0, 0).gives(2, "since", 3, 0, 0).gives(1, "since", 3, 0, 1);

        Run y = sample("since, settled for THEIRS");
        y.gives(0, "settle", 0, 1).gives(3, "since", 3, 0, 0).gives(1, "since", 3, 0, 1);
        y.gives(2, "since", 2, 0, 0);
    }

    // "the version of the joining that changed it": a joining that brings the value which is there
    // already, or the one that the base had, changes nothing.
    private static void promise18BothToTheSame() {
        Run x = new Run(due, "since, both to the same");
        x.does("session", 0, 0).does("make", 0, 0).does("set", 0, 0, 1, 4).does("join", 0);
        x.does("session", 0, 1).does("session", 0, 1);
        x.does("set", 1, 0, 0, MIN).does("set", 1, 0, 1, 5).does("set", 1, 0, 2, 6);
        x.does("set", 2, 0, 0, MIN).does("set", 2, 0, 1, 4).does("set", 2, 0, 3, 0);
        x.gives(0, "join", 1).gives(0, "join", 2);
        int[] since = {2, 2, 2, 1, 1};
        for (int field = 0; field < 5; field++) {
            x.gives(since[field], "since", 3, 0, field);
        }
        x.gives(3, "there", 2, 0, 2).gives(0, "there", 3, 0, 2).gives(NONE, "differs", 2, 3, 0);
    }

    // "or by which the thing came to be there": all of its fields, changed or not.
    private static void promise18ThereAgain() {
        Run x = thereAgain("there again: since");
        for (int field = 0; field < 5; field++) {
            x.gives(1, "since", 1, 0, field).gives(3, "since", 3, 0, field);
        }
        x.illegalArgument("since", 2, 0, 2);
        x.gives(9, "at", 3, 0, 2).gives(1, "at", 3, 0, 0);
    }

    // From version 1 to version 20, the last one that there can be.
    private static void promise18UpToTheLastVersion() {
        Run x = new Run(due, "since, up to version 20");
        x.does("session", 0, 0).does("make", 0, 0).does("join", 0);
        for (int i = 1; i < 20; i++) {
            x.does("session", 0, i).does("set", i, 0, 3, i / 2).does("join", i);
            int came = i == 1 ? 1 : i / 2 * 2 + 1;
            x.gives(came, "since", i + 1, 0, 3).gives(1, "since", i + 1, 0, 2);
        }
        x.gives(19, "since", 20, 0, 3).gives(9, "at", 20, 0, 3);
        x.illegalArgument("since", 21, 0, 3);
    }

    // "what = 0 whether it is OPEN (0), PENDING (1), OVER (2), 1 its person, 2 its base, 3 the
    // moment at which it stands, 4 how many moments there are, 5 the version that it made (NONE)"
    private static void promise19OfASession() {
        Run x = sample("told");
        int[][] want = {
            {2, 0, 0, 4, 5, 1}, {2, 1, 1, 3, 4, 2}, {1, 2, 1, 1, 2, NONE}, {0, 9, 1, 1, 3, NONE},
        };
        for (int session = 0; session < 4; session++) {
            for (int what = 0; what < 6; what++) {
                x.gives(want[session][what], "told", session, what);
            }
            x.illegalArgument("told", session, -1).illegalArgument("told", session, 6);
            x.illegalArgument("told", session, MIN).illegalArgument("told", session, MAX);
        }
        x.illegalArgument("told", 4, 0).illegalArgument("told", -1, 0);
        x.illegalArgument("told", 20, 5);
    }

    // The last session, the last person, the last moment, and the last version that can come.
    private static void promise19AtItsBounds() {
        Run x = new Run(due, "told of session 19");
        for (int i = 0; i < 19; i++) {
            x.does("session", 0, i).does("join", i);
        }
        x.gives(19, "session", 9, 19).does("make", 19, 0);
        x.gives(0, "told", 19, 0).gives(NONE, "told", 19, 5).gives(19, "told", 19, 2);
        for (int moment = 2; moment < 60; moment++) {
            x.gives(moment, "set", 19, 0, 0, moment);
        }
        x.gives(59, "told", 19, 3).gives(60, "told", 19, 4).gives(9, "told", 19, 1);
        x.gives(0, "join", 19).gives(2, "told", 19, 0).gives(20, "told", 19, 5);
        x.gives(59, "told", 19, 3).gives(60, "told", 19, 4).gives(1, "told", 0, 5);
    }

    // "Which session made a version (not 0)." Sessions that join in another order than that in
    // which they came; told() answers the other way round.
    private static void promise20WhichSession() {
        Run x = new Run(due, "author");
        x.illegalArgument("author", 0).illegalArgument("author", 1).illegalArgument("author", -1);
        for (int i = 0; i < 20; i++) {
            x.does("session", 0, 0);
        }
        for (int i = 0; i < 20; i++) {
            x.gives(0, "join", 19 - i).gives(19 - i, "author", i + 1);
            x.gives(i + 1, "told", 19 - i, 5);
            x.wouldGive(Run.ARGUMENT, "author", i + 2);
        }
        x.gives(19, "author", 1).gives(0, "author", 20);
        x.illegalArgument("author", 0).illegalArgument("author", 21).illegalArgument("author", -1);
        x.illegalArgument("author", MIN).illegalArgument("author", MAX);
    }

    // "How many there are: what = 0 versions, 1 things, 2 sessions, 3 rules": none, and as many as
    // there can be.
    private static void promise21HowMany() {
        Run x = new Run(due, "count");
        x.gives(1, "count", 0).gives(0, "count", 1).gives(0, "count", 2).gives(0, "count", 3);
        for (int i = 0; i < 10; i++) {
            x.does("rule", 0, 0, 0);
        }
        for (int i = 0; i < 20; i++) {
            x.does("session", 0, 0).does("make", i, 0).does("make", i, 0).does("make", i, 0);
            x.does("undo", i).does("drop", i, 3 * i).gives(0, "join", i);
            x.gives(i + 2, "count", 0).gives(3 * i + 3, "count", 1).gives(i + 1, "count", 2);
        }
        x.gives(21, "count", 0).gives(60, "count", 1).gives(20, "count", 2).gives(10, "count", 3);
        x.illegalArgument("count", -1).illegalArgument("count", 4);
        x.illegalArgument("count", MIN).illegalArgument("count", MAX);
    }

    private static void lists(Run x, int[] want, String call, int... ahead) {
        for (int k = 0; k <= want.length; k++) {
            x.gives(k < want.length ? want[k] : NONE, call, joined(ahead, k));
        }
        x.gives(NONE, call, joined(ahead, MAX));
        x.illegalArgument(call, joined(ahead, -1)).illegalArgument(call, joined(ahead, MIN));
    }

    private static int[] joined(int[] ahead, int k) {
        int[] all = java.util.Arrays.copyOf(ahead, ahead.length + 1);
        all[ahead.length] = k;
        return all;
    }

    // "a thing that is there in one alone differs in field 0 alone; NONE if there are no more.
    // Illegal argument: also if k is below 0."
    private static void promise22ThereInOneAlone() {
        Run x = sample("differs");
        lists(x, new int[] {}, "differs", 0, 0);
        lists(x, new int[] {}, "differs", 2, 2);
        lists(x, new int[] {0, 5}, "differs", 0, 1);
        lists(x, new int[] {0, 5}, "differs", 1, 0);
        lists(x, new int[] {0, 5, 10}, "differs", 1, 2);
        lists(x, new int[] {0, 5, 10}, "differs", 2, 1);
        lists(x, new int[] {0, 10}, "differs", 0, 2);
        x.illegalArgument("differs", 3, 0, 0).illegalArgument("differs", 0, 3, 0);
        x.illegalArgument("differs", -1, 0, 0).illegalArgument("differs", 0, -1, 0);

        Run y = thereAgain("differs, there again");
        lists(y, new int[] {0}, "differs", 1, 2);
        lists(y, new int[] {0}, "differs", 2, 3);
        lists(y, new int[] {0}, "differs", 1, 3);
        lists(y, new int[] {}, "differs", 0, 2);
    }

    // All 60 things differ in all 5 fields: the last one is 5 times 59 and 4.
    private static void promise22ThreeHundredDifferences() {
        Run x = new Run(due, "300 differences");
        x.does("session", 0, 0).does("session", 0, 0);
        for (int i = 0; i < 60; i++) {
            x.does("make", i % 2, 0);
        }
        x.does("join", 0).does("join", 1);
        for (int i = 0; i < 300; i++) {
            if (i % 50 == 0) {
                x.does("session", 0, 2);
            }
            x.does("set", 2 + i / 50, i / 5, i % 5, 7);
        }
        for (int session = 2; session < 8; session++) {
            x.gives(0, "join", session);
        }
        for (int k : new int[] {0, 1, 4, 5, 149, 150, 294, 295, 298, 299}) {
            x.gives(k, "differs", 2, 8, k).gives(k, "differs", 8, 2, k);
        }
        x.gives(NONE, "differs", 2, 8, 300).gives(NONE, "differs", 2, 8, MAX);
        x.gives(295, "differs", 0, 8, 59).gives(NONE, "differs", 0, 8, 60);
    }

    // Values whose difference does not fit into 32 bits differ, too.
    private static void promise22LargeValues() {
        Run x = new Run(due, "differs, large values");
        x.does("session", 0, 0).does("make", 0, 0).does("set", 0, 0, 1, MIN);
        x.does("set", 0, 0, 2, MIN).does("set", 0, 0, 3, MAX).does("join", 0);
        x.does("session", 0, 1).does("set", 1, 0, 1, MAX).does("set", 1, 0, 4, MIN);
        x.does("set", 1, 0, 3, -1).gives(0, "join", 1);
        lists(x, new int[] {1, 3, 4}, "differs", 1, 2);
        x.gives(3, "there", 2, 0, 2).gives(1, "since", 2, 0, 2).gives(2, "since", 2, 0, 4);
    }

    // "60 times the rule, and the thing; NONE if there are no more. Illegal argument: also if k
    // is below 0." A rule holds for the versions that were there ahead of it, too.
    private static void promise23ByRulesThenNumbers() {
        Run x = new Run(due, "broken");
        lists(x, new int[] {}, "broken", 0);
        x.does("session", 0, 0).does("make", 0, 4).does("make", 0, 0).does("make", 0, 4);
        x.does("set", 0, 0, 0, 1).does("set", 0, 1, 4, 2).does("join", 0);
        lists(x, new int[] {}, "broken", 1);
        x.gives(0, "rule", 4, 0, 0);
        lists(x, new int[] {2}, "broken", 1);
        x.gives(1, "rule", 4, 4, 4).gives(2, "rule", 0, 4, 4);
        lists(x, new int[] {2}, "broken", 1);
        x.gives(3, "rule", 4, 4, 0).gives(4, "rule", 0, 0, 0);
        lists(x, new int[] {2, 180, 182, 241}, "broken", 1);
        lists(x, new int[] {}, "broken", 0);
        x.illegalArgument("broken", 2, 0).illegalArgument("broken", -1, 0);
    }

    // Ten rules, and sixty things that break each: the last one is 60 times 9 and 59.
    private static void promise23SixHundredBroken() {
        Run x = new Run(due, "600 broken");
        x.does("session", 0, 0).does("session", 0, 0);
        for (int i = 0; i < 60; i++) {
            x.does("make", i % 2, 2);
        }
        x.gives(0, "join", 0).gives(0, "join", 1);
        for (int i = 0; i < 10; i++) {
            x.gives(i, "rule", 2, i % 5, 3);
        }
        for (int k = 0; k < 600; k += 3) {
            x.gives(k, "broken", 2, k);
        }
        x.gives(599, "broken", 2, 599).gives(598, "broken", 2, 598);
        x.gives(NONE, "broken", 2, 600).gives(NONE, "broken", 2, MAX);
        x.gives(60, "broken", 1, 30).gives(598, "broken", 1, 299).gives(NONE, "broken", 1, 300);
    }

    // "BROKEN in a version are things that are there", for which the named one is not there.
    private static void promise23OnlyThingsThatAreThere() {
        Run x = new Run(due, "broken and dropped");
        x.does("rule", 0, 2, 1).does("session", 0, 0);
        x.does("make", 0, 0).does("make", 0, 1).does("make", 0, 0).does("set", 0, 0, 2, 1);
        x.does("set", 0, 2, 2, 1).gives(0, "join", 0);
        x.does("session", 0, 1).does("drop", 1, 1).gives(0, "join", 1);
        x.does("session", 0, 2).does("drop", 2, 0).gives(0, "join", 2);
        x.does("session", 0, 3).does("drop", 3, 2).gives(0, "join", 3);
        lists(x, new int[] {}, "broken", 1);
        lists(x, new int[] {0, 2}, "broken", 2);
        lists(x, new int[] {2}, "broken", 3);
        lists(x, new int[] {}, "broken", 4);
    }
}
