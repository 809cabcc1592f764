import java.util.ArrayList;
import java.util.List;
import java.util.Map;
import java.util.TreeMap;

/**
 * What the document says, in its plainest form: every moment keeps a whole state, and every answer
 * is worked out anew. OracleTest holds ModelMerge against it.
 */
final class PlainModel {
    private static final class Moment {
        int parent;
        Map<Integer, int[]> state;
    }

    private static final class Session {
        int person;
        int base;
        int phase = 0;
        int made = -1;
        int stands = 0;
        List<Moment> moments = new ArrayList<>();

        Map<Integer, int[]> state() {
            return moments.get(stands).state;
        }
    }

    private final List<Map<Integer, int[]>> versions = new ArrayList<>();
    private final List<Integer> authors = new ArrayList<>();
    private final List<Session> sessions = new ArrayList<>();
    private final List<Integer> kinds = new ArrayList<>();
    private final List<Integer> locks = new ArrayList<>();
    private final List<int[]> rules = new ArrayList<>();
    private final List<int[]> conflicts = new ArrayList<>();
    private int pending = -1;

    PlainModel() {
        versions.add(new TreeMap<>());
        authors.add(-1);
    }

    private static void argument(boolean holds) {
        if (!holds) {
            throw new IllegalArgumentException();
        }
    }

    private static void state(boolean holds) {
        if (!holds) {
            throw new IllegalStateException();
        }
    }

    private static boolean in(int number, int bound) {
        return 0 <= number && number < bound;
    }

    private static Map<Integer, int[]> copy(Map<Integer, int[]> from) {
        Map<Integer, int[]> to = new TreeMap<>();
        from.forEach((thing, fields) -> to.put(thing, fields.clone()));
        return to;
    }

    private int grow(Session s, Map<Integer, int[]> state) {
        Moment next = new Moment();
        next.parent = s.stands;
        next.state = state;
        s.moments.add(next);
        s.stands = s.moments.size() - 1;
        return s.stands;
    }

    int session(int person, int version) {
        argument(in(person, 10) && in(version, versions.size()));
        state(sessions.size() < 20);
        Session s = new Session();
        s.person = person;
        s.base = version;
        Moment zero = new Moment();
        zero.parent = -1;
        zero.state = versions.get(version);
        s.moments.add(zero);
        sessions.add(s);
        return sessions.size() - 1;
    }

    int make(int session, int kind) {
        argument(in(session, sessions.size()) && in(kind, 5));
        Session s = sessions.get(session);
        state(s.phase == 0);
        if (kinds.size() == 60 || s.moments.size() == 60) {
            return -4;
        }
        kinds.add(kind);
        locks.add(-1);
        Map<Integer, int[]> next = copy(s.state());
        next.put(kinds.size() - 1, new int[5]);
        grow(s, next);
        return kinds.size() - 1;
    }

    private int refusal(Session s, int thing) {
        if (!s.state().containsKey(thing)) {
            return -3;
        }
        int locker = locks.get(thing);
        if (locker >= 0 && locker != s.person) {
            return -2;
        }
        return s.moments.size() == 60 ? -4 : 0;
    }

    int set(int session, int thing, int field, int v) {
        argument(in(session, sessions.size()) && in(thing, kinds.size()) && in(field, 5));
        Session s = sessions.get(session);
        state(s.phase == 0);
        if (refusal(s, thing) != 0) {
            return refusal(s, thing);
        }
        Map<Integer, int[]> next = copy(s.state());
        next.get(thing)[field] = v;
        return grow(s, next);
    }

    int drop(int session, int thing) {
        argument(in(session, sessions.size()) && in(thing, kinds.size()));
        Session s = sessions.get(session);
        state(s.phase == 0);
        if (refusal(s, thing) != 0) {
            return refusal(s, thing);
        }
        Map<Integer, int[]> next = copy(s.state());
        next.remove(thing);
        return grow(s, next);
    }

    int undo(int session) {
        argument(in(session, sessions.size()));
        Session s = sessions.get(session);
        state(s.phase == 0);
        if (s.stands == 0) {
            return -1;
        }
        s.stands = s.moments.get(s.stands).parent;
        return s.stands;
    }

    int redo(int session) {
        argument(in(session, sessions.size()));
        Session s = sessions.get(session);
        state(s.phase == 0);
        for (int moment = s.moments.size() - 1; moment > 0; moment--) {
            if (s.moments.get(moment).parent == s.stands) {
                s.stands = moment;
                return moment;
            }
        }
        return -1;
    }

    int lock(int thing, int person) {
        argument(in(thing, kinds.size()) && (person == -1 || in(person, 10)));
        return locks.set(thing, person);
    }

    int rule(int kind, int field, int other) {
        argument(in(kind, 5) && in(field, 5) && in(other, 5));
        state(rules.size() < 10);
        rules.add(new int[] {kind, field, other});
        return rules.size() - 1;
    }

    int join(int session) {
        argument(in(session, sessions.size()));
        Session s = sessions.get(session);
        state(s.phase == 0);
        if (pending >= 0) {
            return -5;
        }
        if (versions.size() == 40) {
            return -4;
        }
        pending = session;
        s.phase = 1;
        conflicts.clear();
        Map<Integer, int[]> joined = merge();
        if (conflicts.isEmpty()) {
            come(joined);
        }
        return conflicts.size();
    }

    // Goes by whether base, MINE and THEIRS have a thing, case by case; conflicts come along where
    // they have not been found yet, else their sides are used.
    private Map<Integer, int[]> merge() {
        Session s = sessions.get(pending);
        Map<Integer, int[]> bases = versions.get(s.base);
        Map<Integer, int[]> mines = versions.get(versions.size() - 1);
        Map<Integer, int[]> theirsAll = s.state();
        Map<Integer, int[]> joined = new TreeMap<>();
        for (int thing = 0; thing < kinds.size(); thing++) {
            int[] base = bases.get(thing);
            int[] mine = mines.get(thing);
            int[] theirs = theirsAll.get(thing);
            int[] result = null;
            if (base == null) {
                result = mine != null ? mine : theirs;
            } else if (mine != null && theirs != null) {
                result = mergeFields(thing, base, mine, theirs);
            } else if (mine != null && !same(mine, base) || theirs != null && !same(theirs, base)) {
                result = side(thing, -1) == 1 ? theirs : mine;
            }
            if (result != null) {
                joined.put(thing, result.clone());
            }
        }
        return joined;
    }

    private static boolean same(int[] a, int[] b) {
        return java.util.Arrays.equals(a, b);
    }

    private int[] mergeFields(int thing, int[] base, int[] mine, int[] theirs) {
        int[] result = new int[5];
        for (int f = 0; f < 5; f++) {
            if (theirs[f] == base[f] || theirs[f] == mine[f]) {
                result[f] = mine[f];
            } else if (mine[f] == base[f]) {
                result[f] = theirs[f];
            } else {
                result[f] = side(thing, f) == 1 ? theirs[f] : mine[f];
            }
        }
        return result;
    }

    private int side(int thing, int field) {
        for (int[] c : conflicts) {
            if (c[0] == thing && c[1] == field) {
                return c[2];
            }
        }
        conflicts.add(new int[] {thing, field, -1});
        return -1;
    }

    private void come(Map<Integer, int[]> joined) {
        Session s = sessions.get(pending);
        versions.add(joined);
        authors.add(pending);
        s.phase = 2;
        s.made = versions.size() - 1;
        pending = -1;
    }

    int conflict(int k, int what) {
        argument(k >= 0 && in(what, 5));
        state(pending >= 0);
        argument(k < conflicts.size());
        int[] c = conflicts.get(k);
        if (what < 2) {
            return c[what];
        }
        if (what == 4) {
            return c[2];
        }
        Map<Integer, int[]> from =
                what == 2 ? versions.get(versions.size() - 1) : sessions.get(pending).state();
        int[] fields = from.get(c[0]);
        return c[1] == -1 ? (fields == null ? 0 : 1) : fields[c[1]];
    }

    int settle(int k, int side) {
        argument(k >= 0 && in(side, 2));
        state(pending >= 0);
        argument(k < conflicts.size());
        conflicts.get(k)[2] = side;
        int left = (int) conflicts.stream().filter(c -> c[2] == -1).count();
        if (left == 0) {
            come(merge());
        }
        return left;
    }

    int giveUp() {
        state(pending >= 0);
        int given = pending;
        sessions.get(given).phase = 0;
        pending = -1;
        return given;
    }

    int here(int session, int thing) {
        argument(in(session, sessions.size()) && in(thing, kinds.size()));
        return sessions.get(session).state().containsKey(thing) ? 1 : 0;
    }

    int now(int session, int thing, int field) {
        argument(in(session, sessions.size()) && in(thing, kinds.size()) && in(field, 5));
        int[] fields = sessions.get(session).state().get(thing);
        argument(fields != null);
        return fields[field];
    }

    int there(int version, int thing, int what) {
        argument(in(version, versions.size()) && in(thing, kinds.size()) && in(what, 3));
        int[] fields = versions.get(version).get(thing);
        if (what == 0) {
            return fields == null ? 0 : 1;
        }
        if (what == 1) {
            return kinds.get(thing);
        }
        if (fields == null) {
            return 0;
        }
        int[] before = versions.get(version - 1).get(thing);
        int differ = 0;
        for (int f = 0; f < 5; f++) {
            differ += before == null || before[f] != fields[f] ? 1 : 0;
        }
        return differ;
    }

    int at(int version, int thing, int field) {
        argument(in(version, versions.size()) && in(thing, kinds.size()) && in(field, 5));
        int[] fields = versions.get(version).get(thing);
        argument(fields != null);
        return fields[field];
    }

    int since(int version, int thing, int field) {
        int value = at(version, thing, field);
        int from = version;
        while (versions.get(from - 1).containsKey(thing)
                && versions.get(from - 1).get(thing)[field] == value) {
            from--;
        }
        return from;
    }

    int told(int session, int what) {
        argument(in(session, sessions.size()) && in(what, 6));
        Session s = sessions.get(session);
        int[] all = {s.phase, s.person, s.base, s.stands, s.moments.size(), s.made};
        return all[what];
    }

    int author(int version) {
        argument(version != 0 && in(version, versions.size()));
        return authors.get(version);
    }

    int count(int what) {
        argument(in(what, 4));
        int[] all = {versions.size(), kinds.size(), sessions.size(), rules.size()};
        return all[what];
    }

    int differs(int a, int b, int k) {
        argument(in(a, versions.size()) && in(b, versions.size()) && k >= 0);
        List<Integer> found = new ArrayList<>();
        for (int thing = 0; thing < kinds.size(); thing++) {
            int[] one = versions.get(a).get(thing);
            int[] two = versions.get(b).get(thing);
            if (one == null ^ two == null) {
                found.add(5 * thing);
            }
            for (int f = 0; one != null && two != null && f < 5; f++) {
                if (one[f] != two[f]) {
                    found.add(5 * thing + f);
                }
            }
        }
        return k < found.size() ? found.get(k) : -1;
    }

    int broken(int version, int k) {
        argument(in(version, versions.size()) && k >= 0);
        List<Integer> found = new ArrayList<>();
        Map<Integer, int[]> in = versions.get(version);
        for (int r = 0; r < rules.size(); r++) {
            int[] rule = rules.get(r);
            for (int thing : in.keySet()) {
                int named = in.get(thing)[rule[1]];
                boolean kept = in.containsKey(named) && kinds.get(named) == rule[2];
                if (kinds.get(thing) == rule[0] && !kept) {
                    found.add(60 * r + thing);
                }
            }
        }
        return k < found.size() ? found.get(k) : -1;
    }
}
