import java.util.ArrayList;
import java.util.LinkedHashMap;
import java.util.List;
import java.util.Map;

/**
 * All that can be told of an object behind some calls. An object is good for 512 calls, so the
 * calls are played anew on a fresh object for each part of what is asked.
 */
final class Whole {
    private static final int FIELDS = 5;
    private static final int MOMENTS = 60;
    // So many broken things are asked for of older versions; of the latest one, many more.
    private static final int FEW = 3;
    private static final String IS = " = ";

    private final List<Call> calls;
    private final int room;
    private final List<Call> asked = new ArrayList<>();
    private final List<String> told = new ArrayList<>();

    private Whole(List<Call> calls) {
        this.calls = calls;
        this.room = Run.MOST_CALLS - calls.size();
        if (room < 2 * MOMENTS) {
            throw new IllegalStateException("this run is too long to look at what it leaves");
        }
    }

    static List<String> behind(List<Call> calls) {
        Whole whole = new Whole(calls);
        whole.listQuestions();
        whole.askAll();
        whole.askForLocks();
        whole.askForTrees();
        return whole.told;
    }

    /** Each question with its answer, or, where it was asked often, with all of them in a row. */
    static Map<String, String> answers(List<String> told) {
        Map<String, String> answers = new LinkedHashMap<>();
        for (String line : told) {
            int at = line.indexOf(IS);
            answers.merge(line.substring(0, at), line.substring(at), String::concat);
        }
        return answers;
    }

    static ModelMerge played(List<Call> calls) {
        ModelMerge model = new ModelMerge();
        for (Call call : calls) {
            call.outcome(model);
        }
        return model;
    }

    private void ask(String name, int... arguments) {
        asked.add(new Call(name, arguments));
    }

    private void listQuestions() {
        ModelMerge model = played(calls);
        int versions = model.count(0);
        int things = model.count(1);
        int sessions = model.count(2);
        for (int what = 0; what < 4; what++) {
            ask("count", what);
        }
        for (int session = 0; session < sessions; session++) {
            listOfSession(session, things);
        }
        for (int version = 0; version < versions; version++) {
            listOfVersion(version, things);
        }
        for (int k = 0; k < MOMENTS; k++) {
            for (int what = 0; what < 5; what++) {
                ask("conflict", k, what);
            }
            ask("broken", versions - 1, FEW + k);
        }
    }

    private void listOfSession(int session, int things) {
        for (int what = 0; what < 6; what++) {
            ask("told", session, what);
        }
        for (int thing = 0; thing < things; thing++) {
            ask("here", session, thing);
            for (int field = 0; field < FIELDS; field++) {
                ask("now", session, thing, field);
            }
        }
    }

    private void listOfVersion(int version, int things) {
        ask("author", version);
        for (int k = 0; k < FEW; k++) {
            ask("broken", version, k);
        }
        for (int thing = 0; thing < things; thing++) {
            for (int what = 0; what < 3; what++) {
                ask("there", version, thing, what);
            }
            for (int field = 0; field < FIELDS; field++) {
                ask("at", version, thing, field);
                ask("since", version, thing, field);
            }
        }
    }

    private void tell(ModelMerge model, Call call) {
        told.add(call + IS + call.outcome(model));
    }

    private void askAll() {
        ModelMerge model = null;
        for (int i = 0; i < asked.size(); i++) {
            if (i % room == 0) {
                model = played(calls);
            }
            tell(model, asked.get(i));
        }
    }

    // Who has locked a thing is told by a call that unlocks it.
    private void askForLocks() {
        ModelMerge model = played(calls);
        int things = played(calls).count(1);
        for (int thing = 0; thing < things; thing++) {
            tell(model, new Call("lock", thing, ModelMerge.NONE));
        }
    }

    // The tree of moments is told by going along it: down to moment 0, and up again.
    private void askForTrees() {
        int sessions = played(calls).count(2);
        for (int session = 0; session < sessions; session++) {
            ModelMerge model = played(calls);
            for (int i = 0; i < MOMENTS; i++) {
                tell(model, new Call("undo", session));
            }
            for (int i = 0; i < MOMENTS; i++) {
                tell(model, new Call("redo", session));
            }
        }
    }
}
