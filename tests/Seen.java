import java.util.LinkedHashMap;
import java.util.Map;

/** All that an object answers without being changed by it, and what a call changes of that. */
final class Seen {
    private final Map<String, String> answers = new LinkedHashMap<>();

    Seen(FoldTower t) {
        for (int what = 0; what < 14; what++) {
            int w = what;
            see("count " + w, () -> t.count(w));
        }
        see("fault", t::fault);
        tables(t);
        paper(t);
        flights(t);
        for (int i = -2; i < 5; i++) {
            int k = i;
            see("found " + k, () -> t.found(k));
        }
        for (int m = 0; m < 10; m++) {
            int minute = m;
            see("trim " + m, () -> t.trim(minute));
        }
        for (int i = -1; i < 6; i++) {
            int k = i;
            see("taught " + k, () -> t.taught(k));
        }
    }

    private void see(String call, Check.Call answer) {
        answers.put(call, Check.told(answer));
    }

    private void tables(FoldTower t) {
        for (int k = 0; k < 10; k++) {
            for (int what = 0; what < 5; what++) {
                int of = k;
                int w = what;
                see("table " + k + " " + what, () -> t.table(of, w));
            }
        }
    }

    /** The layers of a sheet of at most 4 by 3, and its creases. */
    private void paper(FoldTower t) {
        for (int cell = 0; cell < 12; cell++) {
            int x = cell % 4;
            int y = cell / 4;
            for (int i = -1; i < 4; i++) {
                int k = i;
                see("layer " + x + " " + y + " " + i, () -> t.layer(x, y, k));
            }
            see("crease " + x + " " + y + " beside", () -> t.crease(x, y, false));
            see("crease " + x + " " + y + " below", () -> t.crease(x, y, true));
        }
    }

    private void flights(FoldTower t) {
        for (int what = 0; what < 4; what++) {
            int w = what;
            see("flight 9 1 " + what, () -> t.flight(9, 1, false, w));
        }
        see("the tower", () -> t.step(0, 0, false, 0, 1));
    }

    int calls() {
        return answers.size();
    }

    /** Each answer that is another one there: [call: before -> after, ..]. */
    String changesTo(Seen after) {
        StringBuilder changes = new StringBuilder();
        for (Map.Entry<String, String> e : answers.entrySet()) {
            String now = after.answers.get(e.getKey());
            if (!now.equals(e.getValue())) {
                changes.append(changes.length() > 0 ? ", " : "").append(e.getKey()).append(": ")
                        .append(e.getValue()).append(" -> ").append(now);
            }
        }
        return changes.toString();
    }

    /** A call's answer, and all that it changes. */
    static void changes(String what, FoldTower t, String due, String changes, Check.Call call) {
        Seen before = new Seen(t);
        Check.same(what, due, Check.told(call));
        Check.same(what + ": what changes", changes, before.changesTo(new Seen(t)));
    }

    static void stays(String what, FoldTower t, String due, Check.Call call) {
        changes(what, t, due, "", call);
    }

    /** A call changes something, and nothing but what these calls answer. */
    static void changesOnly(String what, FoldTower t, String calls, Check.Call call) {
        Seen before = new Seen(t);
        Check.same(what, true, Check.told(call).matches("-?[0-9]+"));
        String changes = before.changesTo(new Seen(t));
        Check.same(what + ": something changes", false, changes.isEmpty());
        for (String change : changes.split(", ")) {
            Check.same(what + ": nothing but " + calls + " changes: " + change, true, change.startsWith(calls));
        }
    }
}
