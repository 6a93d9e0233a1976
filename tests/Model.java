import java.util.ArrayList;
import java.util.Arrays;
import java.util.HashSet;
import java.util.List;
import java.util.NoSuchElementException;
import java.util.Set;

/**
 * The document once more, written apart from the class and as plainly as can be: stacks of cells
 * as lists, every row laid from the start, every flight flown. The random runs compare with it.
 */
final class Model {
    record Fold(int side, int number) {
    }

    record Token(String text, int place) {
    }

    static final class Fault extends Exception {
        private static final long serialVersionUID = 1;
        final int kind;
        final int place;

        Fault(int kind, int place) {
            this.kind = kind;
            this.place = place;
        }
    }

    /** Stacks by place, [y][x]; a cell is its number, and 100 more with its back up. */
    static final class Paper {
        final int w;
        final int h;
        List<List<List<Integer>>> stacks = new ArrayList<>();
        int[][][] creases;
        int done = 0;

        Paper(int w, int h) {
            this.w = w;
            this.h = h;
            creases = new int[h][w][2];
            for (int y = 0; y < h; y++) {
                List<List<Integer>> line = new ArrayList<>();
                for (int x = 0; x < w; x++) {
                    line.add(new ArrayList<>(List.of(w * y + x)));
                }
                stacks.add(line);
            }
        }

        int rows() {
            return stacks.size();
        }

        int columns() {
            return stacks.get(0).size();
        }

        boolean fold(Fold f) {
            boolean upright = f.side < 2;
            int across = upright ? columns() : rows();
            if (f.number < 1 || 2 * f.number > across) {
                return false;
            }
            int[][] before = places();
            List<List<List<Integer>>> lines = upright ? transposed(stacks) : stacks;
            if (f.side % 2 == 1) {
                lines = reversed(lines);
            }
            Set<Integer> turned = new HashSet<>();
            List<List<List<Integer>>> left = new ArrayList<>();
            for (int i = f.number; i < across; i++) {
                List<List<Integer>> line = new ArrayList<>();
                int over = 2 * f.number - 1 - i;
                for (int j = 0; j < lines.get(i).size(); j++) {
                    List<Integer> stack = new ArrayList<>(lines.get(i).get(j));
                    if (over >= 0) {
                        List<Integer> top = lines.get(over).get(j);
                        for (int k = top.size() - 1; k >= 0; k--) {
                            stack.add(top.get(k) >= 100 ? top.get(k) - 100 : top.get(k) + 100);
                            turned.add(top.get(k) % 100);
                        }
                    }
                    line.add(stack);
                }
                left.add(line);
            }
            if (f.side % 2 == 1) {
                left = reversed(left);
            }
            stacks = upright ? transposed(left) : left;
            for (int y = 0; y < h; y++) {
                for (int x = 0; x < w; x++) {
                    crease(before, turned, x, y, x + 1, y, 0);
                    crease(before, turned, x, y, x, y + 1, 1);
                }
            }
            done++;
            return true;
        }

        private void crease(int[][] before, Set<Integer> turned, int x, int y, int x2, int y2, int which) {
            if (x2 >= w || y2 >= h) {
                return;
            }
            int[] a = before[w * y + x];
            int[] b = before[w * y2 + x2];
            boolean oneTurned = turned.contains(w * y + x) != turned.contains(w * y2 + x2);
            boolean side = Math.abs(a[0] - b[0]) + Math.abs(a[1] - b[1]) == 1;
            if (oneTurned && side) {
                creases[y][x][which] = 10 * done + (a[2] == 0 && b[2] == 0 ? 1 : 2);
            }
        }

        private int[][] places() {
            int[][] places = new int[w * h][];
            for (int y = 0; y < rows(); y++) {
                for (int x = 0; x < columns(); x++) {
                    for (int c : stacks.get(y).get(x)) {
                        places[c % 100] = new int[] {x, y, c / 100};
                    }
                }
            }
            return places;
        }

        private static List<List<List<Integer>>> transposed(List<List<List<Integer>>> a) {
            List<List<List<Integer>>> t = new ArrayList<>();
            for (int x = 0; x < a.get(0).size(); x++) {
                List<List<Integer>> line = new ArrayList<>();
                for (List<List<Integer>> from : a) {
                    line.add(from.get(x));
                }
                t.add(line);
            }
            return t;
        }

        private static List<List<List<Integer>>> reversed(List<List<List<Integer>>> a) {
            List<List<List<Integer>>> r = new ArrayList<>();
            for (int i = a.size() - 1; i >= 0; i--) {
                r.add(a.get(i));
            }
            return r;
        }

        int nosiness() {
            if (rows() == 1) {
                return 0;
            }
            int sum = 0;
            for (int y = 0; y < rows(); y++) {
                for (List<Integer> stack : stacks.get(y)) {
                    sum += y * stack.size();
                }
            }
            return 9 - 9 * sum / (w * h) / (rows() - 1);
        }

        int wings() {
            int wings = 0;
            int n = columns();
            for (List<List<Integer>> line : stacks) {
                for (int i = 0; i < n / 2; i++) {
                    wings += line.get(n - 1 - i).size() - line.get(i).size();
                }
            }
            return wings;
        }

        String weights() {
            StringBuilder s = new StringBuilder();
            for (List<List<Integer>> line : stacks) {
                for (List<Integer> stack : line) {
                    s.append(stack.size()).append(' ');
                }
                s.append('/');
            }
            return s.toString();
        }

        String marks() {
            StringBuilder s = new StringBuilder();
            for (int[][] line : creases) {
                for (int[] c : line) {
                    s.append(c[0] % 10).append(c[1] % 10);
                }
            }
            return s.toString();
        }

        int creaseCount() {
            int n = 0;
            for (int[][] line : creases) {
                for (int[] c : line) {
                    n += (c[0] > 0 ? 1 : 0) + (c[1] > 0 ? 1 : 0);
                }
            }
            return n;
        }
    }

    static final class School {
        int w = 4;
        int h = 6;
        int tower = 30;
        int[] window = {20, 0, 30};
        int[][] table = new int[10][];
        int[][] wind = new int[10][];
        List<Fold> known = new ArrayList<>();
    }

    static final class Flown {
        int far;
        int aside;
        int high;
        int steps;
        int direction;
        boolean through;
        List<int[]> places = new ArrayList<>();
    }

    private School s;
    private List<Fold> folds = new ArrayList<>();
    private List<List<Integer>> rowsToTeach = new ArrayList<>();
    private int[] status = new int[3];
    private Object[] image = null;
    private StringBuilder tape = new StringBuilder();
    private int faultPlace = -1;
    private List<Integer> kept = null;
    private int keptTrim;
    private int[] evening = null;

    Model() {
        try {
            s = readSchool(tokens(""));
        } catch (Fault f) {
            throw new IllegalStateException(f);
        }
    }

    int feed(int... numbers) {
        if (tape.length() + 20 > 500) {
            return -1;
        }
        for (int n : numbers) {
            tape.append((char) (n >>> 24)).append((char) (n >>> 16 & 255)).append((char) (n >>> 8 & 255))
                    .append((char) (n & 255));
        }
        return tape.length();
    }

    private String cut(int n) {
        if (n < 0 || n > tape.length()) {
            throw new IllegalArgumentException();
        }
        String text = tape.substring(0, n);
        tape.setLength(0);
        return text;
    }

    private static List<Token> tokens(String text) {
        List<Token> tokens = new ArrayList<>();
        int i = 0;
        while (i < text.length()) {
            String run = "";
            for (String set : List.of("abcdefghijklmnopqrstuvwxyz", "0123456789")) {
                int j = i;
                while (j < text.length() && set.indexOf(text.charAt(j)) >= 0) {
                    j++;
                }
                run = j > i ? text.substring(i, j) : run;
            }
            if (run.isEmpty()) {
                run = text.substring(i, i + 1);
            }
            if (!run.equals(" ") && !run.equals("\n")) {
                tokens.add(new Token(run, i));
            }
            i += run.length();
        }
        tokens.add(new Token("", text.length()));
        return tokens;
    }

    int school(int n) {
        String text = cut(n);
        try {
            s = readSchool(tokens(text));
        } catch (Fault f) {
            faultPlace = f.place;
            status[0]++;
            return f.kind;
        }
        faultPlace = -1;
        folds = new ArrayList<>();
        rowsToTeach = new ArrayList<>();
        kept = null;
        image = null;
        evening = null;
        return 0;
    }

    private static final class Reader {
        final List<Token> tokens;
        int at = 0;

        Reader(List<Token> tokens) {
            this.tokens = tokens;
        }

        Token look() {
            return tokens.get(at);
        }

        void need(boolean good, int kind) throws Fault {
            if (!good) {
                throw new Fault(kind, look().place);
            }
        }

        boolean atNumber() {
            return look().text.matches("[0-9]+");
        }

        int number(int least, int most) throws Fault {
            need(atNumber(), 1);
            String text = look().text;
            need(text.length() < 4 && Integer.parseInt(text) >= least && Integer.parseInt(text) <= most, 2);
            return Integer.parseInt(tokens.get(at++).text);
        }

        int signed() throws Fault {
            if (look().text.equals("-")) {
                at++;
                return -number(0, 5);
            }
            return number(0, 5);
        }

        int side() throws Fault {
            int side = List.of("left", "right", "nose", "tail").indexOf(look().text);
            need(side >= 0, 1);
            at++;
            return side;
        }

        void end() throws Fault {
            need(look().text.equals(";"), 1);
            at++;
        }

        boolean more() {
            return at < tokens.size() - 1;
        }
    }

    private static School readSchool(List<Token> tokens) throws Fault {
        School s = new School();
        Reader r = new Reader(tokens);
        Set<String> once = new HashSet<>();
        while (r.more()) {
            String word = r.look().text;
            r.need(List.of("sheet", "table", "wind", "tower", "window", "known").contains(word), 1);
            r.need(!word.equals("known") || s.known.size() < 10, 2);
            r.need(!List.of("sheet", "tower", "window").contains(word) || once.add(word), 3);
            r.at++;
            if (word.equals("sheet")) {
                s.w = r.number(1, 8);
                s.h = r.number(1, 8);
            } else if (word.equals("tower")) {
                s.tower = r.number(1, 200);
            } else if (word.equals("window")) {
                int d = r.number(1, 200);
                int a = r.number(0, 200);
                s.window = new int[] {d, a, r.number(a, 200)};
            } else if (word.equals("known")) {
                int side = r.side();
                int n = r.number(1, 4);
                r.at--;
                r.need(!s.known.contains(new Fold(side, n)), 4);
                r.at++;
                s.known.add(new Fold(side, n));
            } else {
                int k = r.number(0, 9);
                r.at--;
                r.need(once.add(word + k), 3);
                r.at++;
                if (word.equals("table")) {
                    s.table[k] = new int[] {r.number(0, 20), r.number(0, 20)};
                } else {
                    s.wind[k] = new int[] {r.signed(), r.signed(), r.atNumber() ? r.number(0, 99) : 1};
                }
            }
            r.end();
        }
        for (int k = 0; k < 10; k++) {
            s.table[k] = s.table[k] != null ? s.table[k] : new int[] {k, 1 + Math.abs(k - 6)};
            s.wind[k] = s.wind[k] != null ? s.wind[k] : new int[] {0, 0, 1};
        }
        if (s.known.isEmpty()) {
            for (int i = 0; i < 8; i++) {
                s.known.add(new Fold(i / 2, 1 + i % 2));
            }
        }
        return s;
    }

    int row(int n) {
        List<Fold> told = new ArrayList<>();
        String text = cut(n);
        try {
            Reader r = new Reader(tokens(text));
            while (r.more()) {
                told.add(new Fold(r.side(), r.number(1, 4)));
                r.end();
            }
        } catch (Fault f) {
            faultPlace = f.place;
            status[0]++;
            return -1 - f.kind;
        }
        faultPlace = -1;
        int before = folds.size();
        for (Fold f : told) {
            if (!foldOne(f)) {
                break;
            }
        }
        return folds.size() - before;
    }

    int fault() {
        return faultPlace;
    }

    private Paper paper(List<Fold> row) {
        Paper p = new Paper(s.w, s.h);
        for (Fold f : row) {
            if (!p.fold(f)) {
                return null;
            }
        }
        return p;
    }

    private Paper paper() {
        return paper(folds);
    }

    private boolean foldOne(Fold f) {
        if (!paper().fold(f)) {
            status[1]++;
            return false;
        }
        folds.add(f);
        return true;
    }

    int count(int what) {
        Paper p = paper();
        int[] all = {s.w, s.h, p.columns(), p.rows(), folds.size(), p.creaseCount(), p.nosiness(), p.wings(),
            s.known.size(), rowsToTeach.size(), tape.length(), status[0], status[1], status[2]};
        if (what < 0 || what >= all.length) {
            throw new NoSuchElementException();
        }
        return all[what];
    }

    int table(int k, int what) {
        if (k < 0 || k > 9 || what < 0 || what > 4) {
            throw new NoSuchElementException();
        }
        return what < 2 ? s.table[k][what] : s.wind[k][what - 2];
    }

    int fold(int side, int n) {
        if (side < 0 || side > 3) {
            throw new NoSuchElementException();
        }
        return foldOne(new Fold(side, Math.min(n, 100))) ? folds.size() : -1;
    }

    int undo() {
        if (folds.isEmpty()) {
            return -1;
        }
        folds.remove(folds.size() - 1);
        return folds.size();
    }

    int layer(int x, int y, int i) {
        Paper p = paper();
        if (x < 0 || y < 0 || x >= p.columns() || y >= p.rows()) {
            throw new NoSuchElementException();
        }
        List<Integer> stack = p.stacks.get(y).get(x);
        if (i == -1) {
            return stack.size();
        }
        if (i < 0 || i >= stack.size()) {
            throw new NoSuchElementException();
        }
        return stack.get(i);
    }

    int crease(int x, int y, boolean down) {
        int x2 = down ? x : x + 1;
        int y2 = down ? y + 1 : y;
        if (x < 0 || y < 0 || x2 < 0 || y2 < 0 || x2 >= s.w || y2 >= s.h) {
            throw new NoSuchElementException();
        }
        return paper().creases[y][x][down ? 1 : 0];
    }

    private Flown fly(Paper p, int minute, int trim, boolean wet) {
        Flown f = new Flown();
        f.high = s.tower;
        int wings = p.wings();
        f.places.add(new int[] {0, f.high, 0});
        do {
            int[] wind = s.wind[(minute + f.steps) % 10];
            int[] table = s.table[p.nosiness()];
            int pace = table[0] - Math.abs(trim) + wind[0];
            pace = pace < 0 ? 0 : pace;
            int down = table[1] - trim - wind[1] + (wet ? 1 : 0);
            int before = f.far;
            f.far += f.direction == 0 ? pace : f.direction == 2 ? -pace : 0;
            f.aside += f.direction == 1 ? pace : f.direction == 3 ? -pace : 0;
            f.high -= down < 0 ? 0 : down;
            if (f.direction == 0 && f.aside == 0 && before < s.window[0] && f.far >= s.window[0]) {
                f.through |= f.high >= s.window[1] && f.high <= s.window[2];
            }
            f.steps++;
            if (wings != 0 && f.steps % Math.max(1, 8 / Math.abs(wings)) == 0) {
                f.direction = (f.direction + (wings > 0 ? 1 : -1) + 4) % 4;
            }
            f.places.add(new int[] {f.far, f.high, f.direction});
        } while (f.high > 0 && f.steps < 200);
        return f;
    }

    private static void legal(boolean good) {
        if (!good) {
            throw new IllegalArgumentException();
        }
    }

    private static void there(boolean good) {
        if (!good) {
            throw new NoSuchElementException();
        }
    }

    int flight(int minute, int trim, boolean wet, int what) {
        there(what >= 0 && what <= 3);
        legal(minute >= 0 && minute <= 9 && trim >= -3 && trim <= 3);
        Flown f = fly(paper(), minute, trim, wet);
        return new int[] {f.far, f.steps, f.aside, f.through ? 1 : 0}[what];
    }

    int step(int minute, int trim, boolean wet, int steps, int what) {
        there(what >= 0 && what <= 2);
        legal(minute >= 0 && minute <= 9 && trim >= -3 && trim <= 3);
        Flown f = fly(paper(), minute, trim, wet);
        there(steps >= 0 && steps < f.places.size());
        return f.places.get(steps)[what];
    }

    /** All rows that can be, in the order of like ones; null, if they are spent. */
    private List<List<Integer>> all(int l) {
        List<List<Integer>> all = new ArrayList<>();
        List<List<Integer>> longest = List.of(List.<Integer>of());
        for (int length = 0; length <= l; length++) {
            all.addAll(longest);
            if (all.size() > 5000) {
                return null;
            }
            List<List<Integer>> next = new ArrayList<>();
            for (List<Integer> row : longest) {
                for (int k = 0; k < s.known.size() && length < l; k++) {
                    List<Integer> more = new ArrayList<>(row);
                    more.add(k);
                    if (paper(folds(more)) != null) {
                        next.add(more);
                    }
                }
            }
            longest = next;
        }
        return all;
    }

    private List<Fold> folds(List<Integer> row) {
        List<Fold> folds = new ArrayList<>();
        for (int k : row) {
            folds.add(s.known.get(k));
        }
        return folds;
    }

    int best(int what, int l, int minute) {
        there(what >= 0 && what <= 2);
        legal(l >= 0 && l <= 4 && minute >= 0 && minute <= 9);
        List<List<Integer>> all = all(l);
        if (all == null) {
            return -20000;
        }
        int best = -10000;
        for (List<Integer> row : all) {
            Paper p = paper(folds(row));
            for (int trim = -3; trim <= 3; trim++) {
                Flown f = fly(p, minute, trim, false);
                int value = what == 1 ? f.steps : f.far;
                if ((what < 2 || f.through) && value > best) {
                    best = value;
                    kept = row;
                    keptTrim = trim;
                }
            }
        }
        return best;
    }

    int found(int i) {
        there(kept != null);
        if (i == -1 || i == -2) {
            return i == -1 ? kept.size() : keptTrim;
        }
        there(i >= 0 && i < kept.size());
        return kept.get(i);
    }

    int mean(int trim, int what) {
        there(what == 0 || what == 1);
        legal(trim >= -3 && trim <= 3);
        int upper = 0;
        int lower = 0;
        for (int m = 0; m < 10; m++) {
            upper += s.wind[m][2] * fly(paper(), m, trim, false).far;
            lower += s.wind[m][2];
        }
        if (lower == 0) {
            return what == 0 ? 0 : 1;
        }
        for (int d = lower; d > 1; d--) {
            if (upper % d == 0 && lower % d == 0) {
                upper /= d;
                lower /= d;
            }
        }
        return what == 0 ? upper : lower;
    }

    int rows(int l, boolean alike) {
        legal(l >= 0 && l <= 4);
        List<List<Integer>> all = all(l);
        if (all == null) {
            return -2;
        }
        int n = 0;
        for (List<Integer> row : all) {
            Paper p = paper(folds(row));
            if (alike ? p.weights().equals(paper().weights()) : p.marks().equals(paper().marks())) {
                if (n == 0) {
                    kept = row;
                    keptTrim = 0;
                }
                n++;
            }
        }
        return n;
    }

    int evening(int minutes) {
        legal(minutes > 0 && minutes < 1024 && Integer.bitCount(minutes) <= 7);
        List<Integer> list = new ArrayList<>();
        for (int m = 0; m < 10; m++) {
            if ((minutes >> m) % 2 == 1) {
                list.add(m);
            }
        }
        int[][] far = new int[10][7];
        for (int m : list) {
            for (int t = -3; t <= 3; t++) {
                far[m][t + 3] = fly(paper(), m, t, false).far;
            }
        }
        int[] best = {Integer.MIN_VALUE};
        tryTrims(far, list, new ArrayList<>(), best);
        return best[0];
    }

    private void tryTrims(int[][] far, List<Integer> minutes, List<Integer> trims, int[] best) {
        if (trims.size() == minutes.size()) {
            int sum = 0;
            for (int i = 0; i < trims.size(); i++) {
                sum += far[minutes.get(i)][trims.get(i) + 3];
            }
            if (sum > best[0]) {
                best[0] = sum;
                evening = new int[10];
                Arrays.fill(evening, 99);
                for (int i = 0; i < trims.size(); i++) {
                    evening[minutes.get(i)] = trims.get(i);
                }
            }
            return;
        }
        for (int t = -3; t <= 3; t++) {
            if (!trims.contains(t)) {
                trims.add(t);
                tryTrims(far, minutes, trims, best);
                trims.remove(trims.size() - 1);
            }
        }
    }

    int trim(int minute) {
        there(evening != null && minute >= 0 && minute < 10 && evening[minute] != 99);
        return evening[minute];
    }

    int teach(int... numbers) {
        List<Integer> row = new ArrayList<>();
        boolean good = rowsToTeach.size() < 12;
        for (int i = 0; i < 4; i++) {
            good &= numbers[i] >= -1 && numbers[i] < s.known.size();
            good &= i == 0 ? numbers[0] != -1 : numbers[i] == -1 || numbers[i - 1] != -1;
            if (numbers[i] != -1) {
                row.add(numbers[i]);
            }
        }
        if (!good) {
            status[2]++;
            return -1;
        }
        rowsToTeach.add(row);
        return rowsToTeach.size();
    }

    int taught(int i) {
        List<Integer> order = new ArrayList<>();
        boolean more = true;
        while (more) {
            more = false;
            for (int r = 0; r < rowsToTeach.size() && !more; r++) {
                if (!order.contains(r) && teachable(rowsToTeach.get(r), order)) {
                    order.add(r);
                    more = true;
                }
            }
        }
        if (i == -1) {
            return order.size();
        }
        there(i >= 0 && i < order.size());
        return order.get(i);
    }

    private boolean teachable(List<Integer> row, List<Integer> taught) {
        boolean can = row.size() == 1;
        for (int t : taught) {
            List<Integer> from = rowsToTeach.get(t);
            can |= row.subList(0, row.size() - 1).equals(from);
            for (int out = 0; out < from.size(); out++) {
                List<Integer> less = new ArrayList<>(from);
                less.remove(out);
                can |= less.equals(row);
            }
        }
        return can;
    }

    void image() {
        image = new Object[] {new ArrayList<>(folds), new ArrayList<>(rowsToTeach), status.clone()};
    }

    @SuppressWarnings("unchecked")
    boolean restore() {
        if (image == null) {
            return false;
        }
        folds = new ArrayList<>((List<Fold>) image[0]);
        rowsToTeach = new ArrayList<>((List<List<Integer>>) image[1]);
        status = ((int[]) image[2]).clone();
        return true;
    }
}
