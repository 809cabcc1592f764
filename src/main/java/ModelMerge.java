/**
 * A model that several change at once: sessions begin at a version, change it for themselves, and
 * join again; what differs is a conflict that is settled side by side.
 */
public final class ModelMerge {
    public static final int NONE = -1;
    public static final int LOCKED = -2;
    public static final int GONE = -3;
    public static final int FULL = -4;
    public static final int BUSY = -5;

    private static final int PERSONS = 10;
    private static final int KINDS = 5;
    private static final int FIELDS = 5;
    private static final int THINGS = 60;
    private static final int MOMENTS = 60;
    private static final int SESSIONS = 20;
    private static final int VERSIONS = 40;
    private static final int RULES = 10;

    // As told() answers them.
    private static final int OPEN = 0;
    private static final int PENDING = 1;
    private static final int OVER = 2;

    private static final int MINE = 0;
    private static final int THEIRS = 1;

    // Whether a thing is there is held and asked for as if it were its field NONE, because a
    // conflict of a whole thing has that field too.
    private static final int WHOLE = NONE;
    private static final int CELLS = FIELDS + 1;

    private final int[] kinds = new int[THINGS];
    private final int[] lockers = new int[THINGS];
    private int thingCount = 0;

    private final Session[] sessions = new Session[SESSIONS];
    private int sessionCount = 0;

    private final Version[] versions = new Version[VERSIONS];
    private int versionCount = 0;
    private Version latest;

    private final Rule[] rules = new Rule[RULES];
    private int ruleCount = 0;

    private final Conflicts conflicts = new Conflicts();
    private Session pending = null;

    public ModelMerge() {
        latest = new Version(0, NONE, new State());
        versions[0] = latest;
        versionCount = 1;
    }

    // ---- what changes the model

    public int session(int person, int version)
            throws IllegalArgumentException, IllegalStateException {
        checkBelow(person, PERSONS);
        Version base = versionOf(version);
        if (sessionCount >= SESSIONS) {
            throw new IllegalStateException("there are 20 sessions");
        }
        int number = sessionCount;
        sessions[number] = new Session(number, person, base);
        sessionCount++;
        return number;
    }

    public int make(int session, int kind) throws IllegalArgumentException, IllegalStateException {
        Session maker = sessionOf(session);
        checkBelow(kind, KINDS);
        checkOpen(maker);
        if (thingCount >= THINGS || maker.isFull()) {
            return FULL;
        }
        int thing = thingCount;
        kinds[thing] = kind;
        lockers[thing] = NONE;
        thingCount++;
        maker.change(thing, WHOLE, 1);
        return thing;
    }

    public int set(int session, int thing, int field, int v)
            throws IllegalArgumentException, IllegalStateException {
        checkBelow(field, FIELDS);
        return changeThing(session, thing, field, v);
    }

    public int drop(int session, int thing) throws IllegalArgumentException, IllegalStateException {
        return changeThing(session, thing, WHOLE, 0);
    }

    public int undo(int session) throws IllegalArgumentException, IllegalStateException {
        Session undoing = sessionOf(session);
        checkOpen(undoing);
        return undoing.stepBack();
    }

    public int redo(int session) throws IllegalArgumentException, IllegalStateException {
        Session redoing = sessionOf(session);
        checkOpen(redoing);
        return redoing.stepForward();
    }

    public int lock(int thing, int person) throws IllegalArgumentException {
        checkThing(thing);
        if (person != NONE) {
            checkBelow(person, PERSONS);
        }
        int before = lockerOf(thing);
        lockers[thing] = person;
        return before;
    }

    public int rule(int kind, int field, int other)
            throws IllegalArgumentException, IllegalStateException {
        checkBelow(kind, KINDS);
        checkBelow(field, FIELDS);
        checkBelow(other, KINDS);
        if (ruleCount >= RULES) {
            throw new IllegalStateException("there are 10 rules");
        }
        int number = ruleCount;
        rules[number] = new Rule(kind, field, other);
        ruleCount++;
        return number;
    }

    public int join(int session) throws IllegalArgumentException, IllegalStateException {
        Session joining = sessionOf(session);
        checkOpen(joining);
        if (pending != null) {
            return BUSY;
        }
        if (versionCount >= VERSIONS) {
            return FULL;
        }
        findConflicts(joining);
        if (conflicts.size == 0) {
            finishJoining(joining);
            return 0;
        }
        joining.phase = PENDING;
        pending = joining;
        return conflicts.size;
    }

    public int conflict(int k, int what) throws IllegalArgumentException, IllegalStateException {
        checkBelow(what, 5);
        Session joining = pendingWithConflict(k);
        int thing = conflicts.thingOf(k);
        int field = conflicts.fieldOf(k);
        switch (what) {
            case 0:
                return thing;
            case 1:
                return field;
            case 2:
                return latest.state.value(thing, field);
            case 3:
                return joining.state.value(thing, field);
            default:
                return conflicts.sideOf(k);
        }
    }

    public int settle(int k, int side) throws IllegalArgumentException, IllegalStateException {
        checkSide(side);
        Session joining = pendingWithConflict(k);
        conflicts.choose(k, side);
        int left = conflicts.countUnsettled();
        if (left == 0) {
            finishJoining(joining);
        }
        return left;
    }

    public int giveUp() throws IllegalStateException {
        Session given = pending;
        if (given == null) {
            throw new IllegalStateException("no session is pending");
        }
        given.phase = OPEN;
        pending = null;
        return given.number;
    }

    // ---- what is told

    public int here(int session, int thing) throws IllegalArgumentException {
        Session asked = sessionOf(session);
        checkThing(thing);
        return asked.state.value(thing, WHOLE);
    }

    public int now(int session, int thing, int field) throws IllegalArgumentException {
        Session asked = sessionOf(session);
        checkField(asked.state, thing, field);
        return asked.state.value(thing, field);
    }

    public int there(int version, int thing, int what) throws IllegalArgumentException {
        Version asked = versionOf(version);
        checkThing(thing);
        switch (what) {
            case 0:
                return asked.state.value(thing, WHOLE);
            case 1:
                return kindOf(thing);
            case 2:
                return asked.countNewFields(thing);
            default:
                throw new IllegalArgumentException("what is 0, 1 or 2");
        }
    }

    public int at(int version, int thing, int field) throws IllegalArgumentException {
        Version asked = versionOf(version);
        checkField(asked.state, thing, field);
        return asked.state.value(thing, field);
    }

    public int since(int version, int thing, int field) throws IllegalArgumentException {
        Version asked = versionOf(version);
        checkField(asked.state, thing, field);
        return asked.origin(thing, field);
    }

    public int told(int session, int what) throws IllegalArgumentException {
        Session asked = sessionOf(session);
        switch (what) {
            case 0:
                return asked.phase;
            case 1:
                return asked.person;
            case 2:
                return asked.base.number;
            case 3:
                return asked.standing.number;
            case 4:
                return asked.momentCount;
            case 5:
                return asked.madeVersion;
            default:
                throw new IllegalArgumentException("what is 0 to 5");
        }
    }

    public int author(int version) throws IllegalArgumentException {
        Version asked = versionOf(version);
        if (asked.madeBy == NONE) {
            throw new IllegalArgumentException("no session made version 0");
        }
        return asked.madeBy;
    }

    public int count(int what) throws IllegalArgumentException {
        switch (what) {
            case 0:
                return versionCount;
            case 1:
                return thingCount;
            case 2:
                return sessionCount;
            case 3:
                return ruleCount;
            default:
                throw new IllegalArgumentException("what is 0 to 3");
        }
    }

    public int differs(int versionA, int versionB, int k) throws IllegalArgumentException {
        State a = versionOf(versionA).state;
        State b = versionOf(versionB).state;
        checkNotNegative(k);
        int left = k;
        for (int thing = 0; thing < thingCount; thing++) {
            for (int field = 0; field < FIELDS; field++) {
                if (isDifference(a, b, thing, field)) {
                    if (left == 0) {
                        return FIELDS * thing + field;
                    }
                    left--;
                }
            }
        }
        return NONE;
    }

    public int broken(int version, int k) throws IllegalArgumentException {
        State state = versionOf(version).state;
        checkNotNegative(k);
        int left = k;
        for (int number = 0; number < ruleCount && number < RULES; number++) {
            for (int thing = 0; thing < thingCount; thing++) {
                if (isBroken(rules[number], state, thing)) {
                    if (left == 0) {
                        return THINGS * number + thing;
                    }
                    left--;
                }
            }
        }
        return NONE;
    }

    // ---- arguments and states that calls refuse

    private static void checkBelow(int number, int bound) {
        if (number < 0 || number >= bound) {
            throw new IllegalArgumentException("a number is out of its bounds");
        }
    }

    private static void checkNotNegative(int k) {
        if (k < 0) {
            throw new IllegalArgumentException("k is below 0");
        }
    }

    private static void checkSide(int side) {
        if (side != MINE && side != THEIRS) {
            throw new IllegalArgumentException("a side is 0 or 1");
        }
    }

    private void checkThing(int thing) {
        if (!isThing(thing)) {
            throw new IllegalArgumentException("there is no such thing");
        }
    }

    private void checkField(State state, int thing, int field) {
        checkThing(thing);
        checkBelow(field, FIELDS);
        if (!state.has(thing)) {
            throw new IllegalArgumentException("the thing is not there");
        }
    }

    private static void checkOpen(Session asked) {
        if (asked.phase != OPEN) {
            throw new IllegalStateException("the session is not open");
        }
    }

    private Session sessionOf(int number) {
        Session found = number >= 0 && number < SESSIONS ? sessions[number] : null;
        if (found == null) {
            throw new IllegalArgumentException("there is no such session");
        }
        return found;
    }

    private Version versionOf(int number) {
        Version found = number >= 0 && number < VERSIONS ? versions[number] : null;
        if (found == null) {
            throw new IllegalArgumentException("there is no such version");
        }
        return found;
    }

    // How many conflicts there are is known of a pending session alone, so only a k below 0 is
    // wrong ahead of the state.
    private Session pendingWithConflict(int k) {
        checkNotNegative(k);
        Session joining = pending;
        if (joining == null) {
            throw new IllegalStateException("no session is pending");
        }
        checkBelow(k, conflicts.size);
        return joining;
    }

    // ---- things

    private boolean isThing(int thing) {
        return thing >= 0 && thing < thingCount && thing < THINGS;
    }

    private int kindOf(int thing) {
        return isThing(thing) ? kinds[thing] : NONE;
    }

    private int lockerOf(int thing) {
        return isThing(thing) ? lockers[thing] : NONE;
    }

    private int changeThing(int session, int thing, int field, int v) {
        Session changing = sessionOf(session);
        checkThing(thing);
        checkOpen(changing);
        if (!changing.state.has(thing)) {
            return GONE;
        }
        int locker = lockerOf(thing);
        if (locker != NONE && locker != changing.person) {
            return LOCKED;
        }
        if (changing.isFull()) {
            return FULL;
        }
        return changing.change(thing, field, v);
    }

    // A thing that is there in one version alone is one difference, told as its field 0.
    private static boolean isDifference(State a, State b, int thing, int field) {
        if (a.has(thing) != b.has(thing)) {
            return field == 0;
        }
        return a.has(thing) && a.value(thing, field) != b.value(thing, field);
    }

    private boolean isBroken(Rule rule, State state, int thing) {
        if (rule == null || !state.has(thing) || kindOf(thing) != rule.kind) {
            return false;
        }
        int named = state.value(thing, rule.field);
        return !state.has(named) || kindOf(named) != rule.other;
    }

    // ---- joining

    private void findConflicts(Session joining) {
        State base = joining.base.state;
        State mine = latest.state;
        State theirs = joining.state;
        // Here alone the rows are emptied: without a pending session nobody reads them.
        conflicts.clear();
        for (int thing = 0; thing < thingCount; thing++) {
            if (isDroppedAndChanged(base, mine, theirs, thing)) {
                conflicts.add(thing, WHOLE);
            } else if (mine.has(thing) && theirs.has(thing)) {
                findFieldConflicts(base, mine, theirs, thing);
            }
        }
    }

    private void findFieldConflicts(State base, State mine, State theirs, int thing) {
        for (int field = 0; field < FIELDS; field++) {
            int was = base.value(thing, field);
            int my = mine.value(thing, field);
            int their = theirs.value(thing, field);
            if (my != was && their != was && my != their) {
                conflicts.add(thing, field);
            }
        }
    }

    private static boolean isDroppedAndChanged(State base, State mine, State theirs, int thing) {
        if (!base.has(thing) || mine.has(thing) == theirs.has(thing)) {
            return false;
        }
        State kept = mine.has(thing) ? mine : theirs;
        for (int field = 0; field < FIELDS; field++) {
            if (kept.value(thing, field) != base.value(thing, field)) {
                return true;
            }
        }
        return false;
    }

    // join() has seen that there is room, and no other version comes while a session is pending;
    // the test stands here all the same, beside the index that it guards.
    private void finishJoining(Session joining) {
        if (versionCount >= VERSIONS) {
            return;
        }
        int number = versionCount;
        Version made = new Version(number, joining.number, joinedState(joining));
        made.traceOrigins(latest);
        versions[number] = made;
        versionCount++;
        latest = made;
        joining.phase = OVER;
        joining.madeVersion = number;
        pending = null;
    }

    private State joinedState(Session joining) {
        State joined = new State();
        for (int thing = 0; thing < thingCount; thing++) {
            joinThing(joined, joining.base.state, joining.state, thing);
        }
        for (int k = 0; k < conflicts.size; k++) {
            State chosen = conflicts.sideOf(k) == THEIRS ? joining.state : latest.state;
            applySettling(joined, chosen, conflicts.thingOf(k), conflicts.fieldOf(k));
        }
        return joined;
    }

    private void joinThing(State joined, State base, State theirs, int thing) {
        State mine = latest.state;
        if (mine.has(thing) && theirs.has(thing)) {
            joined.put(thing, WHOLE, 1);
            for (int field = 0; field < FIELDS; field++) {
                int their = theirs.value(thing, field);
                boolean changed = their != base.value(thing, field);
                joined.put(thing, field, changed ? their : mine.value(thing, field));
            }
        } else {
            joined.copyThing(theirs.has(thing) != base.has(thing) ? theirs : mine, thing);
        }
    }

    private static void applySettling(State joined, State chosen, int thing, int field) {
        if (field == WHOLE) {
            joined.copyThing(chosen, thing);
        } else {
            joined.put(thing, field, chosen.value(thing, field));
        }
    }

    /** Which things are there, and their fields. */
    private static final class State {
        private final int[] cells = new int[THINGS * CELLS];

        boolean has(int thing) {
            return value(thing, WHOLE) == 1;
        }

        int value(int thing, int field) {
            return isCell(thing, field) ? cells[cellOf(thing, field)] : 0;
        }

        void put(int thing, int field, int v) {
            if (isCell(thing, field)) {
                cells[cellOf(thing, field)] = v;
            }
        }

        void copyThing(State from, int thing) {
            boolean has = from.has(thing);
            for (int field = WHOLE; field < FIELDS; field++) {
                put(thing, field, has ? from.value(thing, field) : 0);
            }
        }

        void copyAll(State from) {
            System.arraycopy(from.cells, 0, cells, 0, THINGS * CELLS);
        }

        private static boolean isCell(int thing, int field) {
            return thing >= 0 && thing < THINGS && field >= WHOLE && field < FIELDS;
        }

        private static int cellOf(int thing, int field) {
            return thing * CELLS + field - WHOLE;
        }
    }

    /** A state that stays, and in which version each of its values came. */
    private static final class Version {
        final int number;
        final int madeBy;
        final State state;
        private final int[] origins = new int[THINGS * FIELDS];

        Version(int number, int madeBy, State state) {
            this.number = number;
            this.madeBy = madeBy;
            this.state = state;
        }

        void traceOrigins(Version before) {
            for (int thing = 0; thing < THINGS; thing++) {
                boolean had = before.state.has(thing);
                for (int field = 0; field < FIELDS; field++) {
                    boolean kept = had
                            && before.state.value(thing, field) == state.value(thing, field);
                    origins[thing * FIELDS + field] = kept ? before.origin(thing, field) : number;
                }
            }
        }

        int origin(int thing, int field) {
            boolean known = thing >= 0 && thing < THINGS && field >= 0 && field < FIELDS;
            return known ? origins[thing * FIELDS + field] : number;
        }

        // A value that differs from the version before, or whose thing was not there then, is one
        // that came in this very version.
        int countNewFields(int thing) {
            int found = 0;
            for (int field = 0; field < FIELDS; field++) {
                if (state.has(thing) && origin(thing, field) == number) {
                    found++;
                }
            }
            return found;
        }
    }

    /** One change of a session, with what it takes to go back and forth over it. */
    private static final class Moment {
        final int number;
        final Moment before;
        final int thing;
        final int field;
        final int oldValue;
        final int newValue;
        Moment lastBehind = null;

        Moment(int number, Moment before, int thing, int field, int oldValue, int newValue) {
            this.number = number;
            this.before = before;
            this.thing = thing;
            this.field = field;
            this.oldValue = oldValue;
            this.newValue = newValue;
        }
    }

    /** What one person changes for himself, from a version on. */
    private static final class Session {
        final int number;
        final int person;
        final Version base;
        // Always that of the moment at which the session stands.
        final State state = new State();
        Moment standing = new Moment(0, null, NONE, NONE, 0, 0);
        int momentCount = 1;
        int phase = OPEN;
        int madeVersion = NONE;

        Session(int number, int person, Version base) {
            this.number = number;
            this.person = person;
            this.base = base;
            state.copyAll(base.state);
        }

        boolean isFull() {
            return momentCount >= MOMENTS;
        }

        int change(int thing, int field, int v) {
            int oldValue = state.value(thing, field);
            Moment next = new Moment(momentCount, standing, thing, field, oldValue, v);
            standing.lastBehind = next;
            momentCount++;
            return stepForward();
        }

        int stepForward() {
            Moment next = standing.lastBehind;
            if (next == null) {
                return NONE;
            }
            state.put(next.thing, next.field, next.newValue);
            standing = next;
            return next.number;
        }

        int stepBack() {
            Moment left = standing;
            Moment target = left.before;
            if (target == null) {
                return NONE;
            }
            state.put(left.thing, left.field, left.oldValue);
            standing = target;
            return target.number;
        }
    }

    /** A field of things of one kind is to name a thing of another kind. */
    private static final class Rule {
        final int kind;
        final int field;
        final int other;

        Rule(int kind, int field, int other) {
            this.kind = kind;
            this.field = field;
            this.other = other;
        }
    }

    /** The conflicts of the joining under way, in rows that every joining uses again. */
    private static final class Conflicts {
        private static final int MOST = THINGS * FIELDS;

        private final int[] things = new int[MOST];
        private final int[] fields = new int[MOST];
        private final int[] sides = new int[MOST];
        int size = 0;

        void clear() {
            size = 0;
        }

        void add(int thing, int field) {
            if (size < MOST) {
                things[size] = thing;
                fields[size] = field;
                sides[size] = NONE;
                size++;
            }
        }

        void choose(int k, int side) {
            if (isKnown(k)) {
                sides[k] = side;
            }
        }

        int thingOf(int k) {
            return isKnown(k) ? things[k] : NONE;
        }

        int fieldOf(int k) {
            return isKnown(k) ? fields[k] : NONE;
        }

        int sideOf(int k) {
            return isKnown(k) ? sides[k] : NONE;
        }

        int countUnsettled() {
            int left = 0;
            for (int k = 0; k < size; k++) {
                if (sideOf(k) == NONE) {
                    left++;
                }
            }
            return left;
        }

        private boolean isKnown(int k) {
            return k >= 0 && k < size && k < MOST;
        }
    }
}
