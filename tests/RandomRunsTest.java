import java.util.HashSet;
import java.util.Random;
import java.util.Set;

/** Long runs of random calls, each answered by the class and by the model of the document. */
public final class RandomRunsTest {
    private static final int RUNS = 1500;
    private static final int CALLS = 512;
    private static final int METHODS = 22;
    // As many calls as one turn may make: a text of 500 bytes is fed, read, and its fault asked.
    private static final int MOST_OF_A_TURN = 27;

    private final Random random;
    private final FoldTower real = new FoldTower();
    private final Model model = new Model();
    private final StringBuilder log = new StringBuilder();
    private final Set<String> called = new HashSet<>();
    private int searches = 0;
    private int calls = 0;

    private RandomRunsTest(long seed) {
        random = new Random(seed);
    }

    public static void main(String[] args) {
        int wholeRuns = 0;
        for (int seed = 1; seed <= RUNS && Check.wrong() == 0; seed++) {
            RandomRunsTest run = new RandomRunsTest(seed);
            int most = seed % 3 == 0 ? CALLS : 80;
            run.go(seed % 4 != 0, most);
            Check.same("how many calls the run has", most, run.calls);
            wholeRuns += most == CALLS && run.called.size() == METHODS ? 1 : 0;
            if (Check.wrong() != 0) {
                System.out.println("seed " + seed + ":\n" + run.log);
            }
        }
        Check.same("many runs of 512 calls have calls of all promises: " + wholeRuns, true, wholeRuns > RUNS / 5);
        Check.end();
    }

    private void go(boolean withSchool, int most) {
        if (withSchool) {
            tell(faultlessSchool(), true);
        }
        while (calls <= most - MOST_OF_A_TURN && Check.wrong() == 0) {
            next();
        }
        while (calls < most && Check.wrong() == 0) {
            nextAlone();
        }
    }

    private int from(int least, int most) {
        return least + random.nextInt(most - least + 1);
    }

    private boolean in(int odds) {
        return random.nextInt(odds) == 0;
    }

    private void compare(String call, Check.Call byModel, Check.Call byReal) {
        calls++;
        called.add(call.split(" ")[0]);
        String due = Check.told(byModel);
        String got = Check.told(byReal);
        log.append(call).append(" -> ").append(due).append('\n');
        Check.same(call, due, got);
    }

    private void feed(String text) {
        for (int i = 0; i < text.length(); i += 20) {
            int[] w = new int[5];
            for (int k = 0; k < 5; k++) {
                w[k] = Check.word(text, i + 4 * k);
            }
            compare("feed " + text.substring(i, Math.min(i + 20, text.length())),
                    () -> model.feed(w), () -> real.feed(w[0], w[1], w[2], w[3], w[4]));
        }
    }

    private void tell(String text, boolean school) {
        feed(text);
        int n = in(20) ? from(-1, 510) : text.length();
        compare((school ? "school " : "row ") + n, () -> school ? model.school(n) : model.row(n),
                () -> school ? real.school(n) : real.row(n));
        compare("fault", model::fault, real::fault);
    }

    private String number(int least, int most) {
        String plain = Integer.toString(in(40) ? from(0, 300) : from(least, most));
        return in(15) ? "0" + plain : in(60) ? "00" + plain : plain;
    }

    private String gap() {
        return in(8) ? "\n" : in(8) ? "  " : " ";
    }

    private String foldText() {
        String[] sides = {"left", "right", "nose", "tail"};
        return sides[from(0, 3)] + (in(4) ? "" : gap()) + (in(25) ? number(0, 6) : number(1, 2));
    }

    private String signed() {
        int n = from(-5, 5);
        String number = number(Math.abs(n), Math.abs(n));
        return n < 0 || in(12) ? "-" + (in(5) ? gap() : "") + number : number;
    }

    private String line() {
        switch (from(0, 6)) {
            case 0: return "sheet" + gap() + number(1, 8) + gap() + number(1, 8);
            case 1: return "table" + gap() + number(0, 9) + gap() + number(0, 20) + gap() + number(0, 20);
            case 2: return "wind" + gap() + number(0, 9) + gap() + signed() + gap() + signed()
                    + (in(2) ? gap() + number(0, in(3) ? 0 : 99) : "");
            case 3: return "tower" + gap() + number(1, in(2) ? 20 : 200);
            case 4: return "window" + gap() + number(1, in(2) ? 20 : 200) + gap() + number(0, 50) + gap()
                    + number(40, 200);
            default: return "known" + gap() + foldText();
        }
    }

    private String spoilt(String text) {
        if (text.isEmpty()) {
            return "x";
        }
        int at = random.nextInt(text.length());
        String signs = " \n;-09azAZ.,\t\u0000\u00e9\u00ff";
        String sign = signs.substring(random.nextInt(signs.length())).substring(0, 1);
        switch (from(0, 3)) {
            case 0: return text.substring(0, at) + sign + text.substring(at);
            case 1: return text.substring(0, at) + sign + text.substring(at + 1);
            case 2: return text.substring(0, at) + text.substring(at + 1);
            default: return text.substring(0, at);
        }
    }

    private String schoolText() {
        StringBuilder text = new StringBuilder();
        int lines = in(4) ? from(0, 25) : from(0, 6);
        boolean manyKnown = in(5);
        for (int i = 0; i < lines && text.length() < 440; i++) {
            text.append(manyKnown && !in(4) ? "known " + foldText().replaceFirst("[0-9]+", number(1, 4)) : line());
            text.append(in(10) ? " ;" : ";").append(in(5) ? gap() : "");
        }
        return in(4) ? spoilt(text.toString()) : text.toString();
    }

    /** Each line once at most, all numbers as told. */
    private String faultlessSchool() {
        StringBuilder text = new StringBuilder();
        if (!in(3)) {
            int least = in(2) ? 1 : 5;
            text.append("sheet ").append(from(least, 8)).append(gap()).append(from(least, 8)).append(';');
        }
        for (int k = 0; k < 10; k++) {
            if (in(4)) {
                text.append("table ").append(k).append(gap()).append(from(0, in(2) ? 6 : 20)).append(gap())
                        .append(from(0, in(2) ? 3 : 20)).append(';');
            }
            if (in(3)) {
                text.append("wind ").append(k).append(gap()).append(from(-5, 5)).append(gap()).append(from(-5, 5))
                        .append(in(2) ? " " + from(0, 99) : "").append(';');
            }
        }
        if (in(2)) {
            text.append("tower ").append(from(1, 200)).append(';');
        }
        if (in(2)) {
            int low = from(0, 100);
            text.append("window ").append(from(1, in(2) ? 20 : 200)).append(gap()).append(low).append(gap())
                    .append(from(low, 200)).append(';');
        }
        int known = in(2) ? 0 : from(1, 10);
        int first = from(0, 15);
        for (int i = 0; i < known && text.length() < 450; i++) {
            int fold = in(2) ? (first + 5 * i) % 16 : i + first / 2 * 2 & 15;
            String told = "known " + new String[] {"left", "right", "nose", "tail"}[fold % 4] + gap()
                    + (fold / 4 + 1) + ";";
            if (text.indexOf(told.substring(0, told.length() - 3)) < 0 || in(3)) {
                text.append(text.indexOf(told) < 0 ? told : "");
            }
        }
        return text.length() > 500 ? "" : text.toString();
    }

    private String rowText() {
        StringBuilder text = new StringBuilder();
        int folds = from(0, 5);
        for (int i = 0; i < folds; i++) {
            text.append(foldText()).append(in(10) ? "\n;" : ";");
        }
        return in(6) ? spoilt(text.toString()) : text.toString();
    }

    private int minute() {
        return in(15) ? from(-2, 12) : from(0, 9);
    }

    private int trim() {
        return in(15) ? from(-5, 5) : from(-3, 3);
    }

    private void next() {
        switch (from(0, 20)) {
            case 0: if (in(3)) { tell(in(3) ? faultlessSchool() : schoolText(), true); } break;
            case 1: tell(rowText(), false); break;
            case 2: case 3: case 4: folding(); break;
            case 5: compare("undo", model::undo, real::undo); break;
            case 6: case 7: counting(); break;
            case 8: layering(); break;
            case 9: creasing(); break;
            case 10: case 11: flying(); break;
            case 12: stepping(); break;
            case 13: searching(); break;
            case 14: finding(); break;
            case 15: meaning(); break;
            case 16: throwing(); break;
            case 17: case 18: teaching(); break;
            case 19: { int i = from(-2, 12); compare("taught " + i, () -> model.taught(i), () -> real.taught(i)); break; }
            default: keeping(); break;
        }
    }

    /** A turn that makes but one call. */
    private void nextAlone() {
        switch (from(0, 9)) {
            case 0: case 1: folding(); break;
            case 2: compare("undo", model::undo, real::undo); break;
            case 3: layering(); break;
            case 4: creasing(); break;
            case 5: flying(); break;
            case 6: stepping(); break;
            case 7: finding(); break;
            case 8: meaning(); break;
            default: keeping(); break;
        }
    }

    private void folding() {
        int side = in(20) ? from(-1, 5) : from(0, 3);
        int n = in(20) ? random.nextInt() : in(8) ? from(-1, 6) : from(1, 2);
        compare("fold " + side + " " + n, () -> model.fold(side, n), () -> real.fold(side, n));
    }

    private void counting() {
        int what = from(-1, 14);
        compare("count " + what, () -> model.count(what), () -> real.count(what));
        int k = from(-1, 10);
        int of = from(-1, 5);
        compare("table " + k + " " + of, () -> model.table(k, of), () -> real.table(k, of));
    }

    private void layering() {
        int x = from(-1, in(2) ? 2 : 8);
        int y = from(-1, in(2) ? 2 : 8);
        int i = in(3) ? -1 : from(-2, 9);
        compare("layer " + x + " " + y + " " + i, () -> model.layer(x, y, i), () -> real.layer(x, y, i));
    }

    private void creasing() {
        int x = from(-1, in(2) ? 4 : 8);
        int y = from(-1, in(2) ? 5 : 8);
        boolean down = in(2);
        compare("crease " + x + " " + y + " " + down, () -> model.crease(x, y, down), () -> real.crease(x, y, down));
    }

    private void flying() {
        int minute = minute();
        int trim = trim();
        boolean wet = in(3);
        int what = in(15) ? from(-1, 4) : from(0, 3);
        compare("flight " + minute + " " + trim + " " + wet + " " + what,
                () -> model.flight(minute, trim, wet, what), () -> real.flight(minute, trim, wet, what));
    }

    private void stepping() {
        int minute = minute();
        int trim = trim();
        boolean wet = in(3);
        int steps = in(6) ? from(-1, 202) : in(40) ? random.nextInt() : from(0, 20);
        int what = in(15) ? from(-1, 3) : from(0, 2);
        compare("step " + minute + " " + trim + " " + wet + " " + steps + " " + what,
                () -> model.step(minute, trim, wet, steps, what), () -> real.step(minute, trim, wet, steps, what));
    }

    private void searching() {
        int l = in(15) ? from(-1, 5) : in(6) && searches < 2 ? from(3, 4) : from(0, 2);
        searches += l > 2 ? 1 : 0;
        if (in(2)) {
            boolean alike = in(2);
            compare("rows " + l + " " + alike, () -> model.rows(l, alike), () -> real.rows(l, alike));
        } else {
            int what = in(15) ? from(-1, 3) : from(0, 2);
            int minute = minute();
            compare("best " + what + " " + l + " " + minute,
                    () -> model.best(what, l, minute), () -> real.best(what, l, minute));
        }
        for (int i = -3; i <= 4; i++) {
            int k = i;
            compare("found " + k, () -> model.found(k), () -> real.found(k));
        }
    }

    private void finding() {
        int i = from(-3, 4);
        compare("found " + i, () -> model.found(i), () -> real.found(i));
    }

    private void meaning() {
        int trim = trim();
        int what = in(15) ? from(-1, 2) : from(0, 1);
        compare("mean " + trim + " " + what, () -> model.mean(trim, what), () -> real.mean(trim, what));
    }

    private void throwing() {
        int minutes = in(12) ? random.nextInt() : in(3) ? 1 << from(0, 10) : from(0, 1023);
        int few = in(3) ? minutes : minutes & from(0, 1023);
        compare("evening " + few, () -> model.evening(few), () -> real.evening(few));
        for (int i = -1; i <= 10; i++) {
            int minute = i;
            compare("trim " + minute, () -> model.trim(minute), () -> real.trim(minute));
        }
    }

    private void teaching() {
        int length = from(1, 4);
        int[] n = new int[4];
        for (int i = 0; i < 4; i++) {
            n[i] = i < length ? from(0, in(3) ? 7 : 1) : -1;
        }
        if (in(10)) {
            n[from(0, 3)] = from(-2, 11);
        }
        compare("teach " + n[0] + " " + n[1] + " " + n[2] + " " + n[3],
                () -> model.teach(n), () -> real.teach(n[0], n[1], n[2], n[3]));
        int i = from(-1, 3);
        compare("taught " + i, () -> model.taught(i), () -> real.taught(i));
    }

    private void keeping() {
        if (in(2)) {
            compare("image", () -> { model.image(); return 0; }, () -> { real.image(); return 0; });
        } else {
            compare("restore", () -> model.restore() ? 1 : 0, () -> real.restore() ? 1 : 0);
        }
    }
}
