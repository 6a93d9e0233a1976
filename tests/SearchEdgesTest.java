import java.util.Arrays;

/** The edges of "Terms 4", of BEST to AN IMAGE: each test bears its term and its sentence. */
public final class SearchEdgesTest {
    // Each flight is one step, so that it is as far as FORWARD less how far the trim is from 0.
    private static final String ONE_STEP = "tower 1;table 0 3 20;table 2 2 20;table 3 3 20;table 4 4 20;table 5 5 20;"
            + "table 6 6 20;table 7 7 20;table 8 8 20;";
    // The next to 5000 rows that can be, of all sheets and KNOWN FOLDS: 4998 and 5027.
    private static final String ROWS_4998 = "sheet 8 7;known left 1;known right 1;known left 2;known left 3;"
            + "known left 4;known nose 1;known tail 1;known nose 2;known nose 3;known tail 3;";
    private static final String ROWS_5027 = "sheet 8 8;known left 1;known right 1;known left 2;known right 2;"
            + "known nose 1;known nose 2;known tail 2;known nose 3;known tail 3;";

    private SearchEdgesTest() {
    }

    public static void main(String[] args) {
        bestByLength();
        bestOfRowsThatCanBe();
        bestFromThePlainSheet();
        bestInAMinuteDry();
        bestOfEachTrim();
        bestThroughWindow();
        bestLongest();
        likeOnesFewestFolds();
        likeOnesFirstRow();
        likeOnesLeastTrim();
        bestAgain();
        bestIsThatOfAll();
        spent();
        meanOfWeights();
        meanInLowestTerms();
        meanBelow0();
        foldedSo();
        foldedSoByKinds();
        alike();
        alikeOfAsManyColumns();
        eveningOfMinutes();
        eveningEachTrimOnce();
        eveningLikeOnes();
        eveningBelow0();
        taughtSingle();
        taughtOneMore();
        taughtOneLeftOut();
        taughtInOrder();
        status();
        imageKeeps();
        Check.end();
    }

    private static void foundIs(String what, FoldTower t, int trim, int... row) {
        Check.is(what + ": how many", row.length, () -> t.found(-1));
        Check.is(what + ": trim", trim, () -> t.found(-2));
        for (int i = 0; i < row.length; i++) {
            int k = i;
            Check.is(what + ": " + k, row[k], () -> t.found(k));
        }
        Check.none(what + ": no more", () -> t.found(row.length));
    }

    /** "of all ROWS of 0 to L KNOWN FOLDS (L 0 to 4)": nose 1 by nose 1 the NOSINESS of 6 is 5, 6, 6, 7, 8. */
    private static void bestByLength() {
        FoldTower t = Check.schooled(ONE_STEP + "sheet 1 6;known nose 1;");
        int[] far = {5, 6, 6, 7, 8};
        int[][] rows = {{}, {0}, {0}, {0, 0, 0}, {0, 0, 0, 0}};
        for (int l = 0; l <= 4; l++) {
            int most = l;
            Check.is("BEST of 0 to " + l, far[l], () -> t.best(0, most, 0));
            foundIs("BEST of 0 to " + l, t, 0, rows[l]);
        }
        FoldTower none = Check.schooled("sheet 1 1;tower 1;table 0 5 20;");
        Check.is("BEST of the row of none", 5, () -> none.best(0, 4, 0));
        foundIs("BEST of the row of none", none, 0);
    }

    /** "that can be": a KNOWN FOLD that can't be, at first or behind others, is in no row. */
    private static void bestOfRowsThatCanBe() {
        FoldTower t = Check.schooled(ONE_STEP + "sheet 1 4;known nose 3;known left 1;known nose 1;known right 4;");
        Check.is("BEST, what can't be is in no row", 6, () -> t.best(0, 1, 0));
        foundIs("BEST, what can't be is in no row", t, 0, 2);
        Check.is("BEST, no FOLD is refused", 0, () -> t.count(12));
        FoldTower never = Check.schooled("sheet 1 1;tower 1;table 0 5 20;known nose 1;known left 4;");
        Check.is("BEST, none can be", 5, () -> never.best(0, 4, 0));
        foundIs("BEST, none can be", never, 0);
    }

    /** "from the plain SHEET": whatever is folded now, which stays. */
    private static void bestFromThePlainSheet() {
        FoldTower t = Check.schooled(ONE_STEP + "sheet 1 8;known nose 1;");
        t.fold(3, 4);
        t.fold(3, 2);
        Check.is("BEST from the plain SHEET", 6, () -> t.best(0, 1, 0));
        foundIs("BEST from the plain SHEET", t, 0, 0);
        Check.is("BEST, what is FOLDED stays", 2, () -> t.count(4));
        Check.is("BEST, its length stays", 2, () -> t.count(3));
        Check.is("BEST, its layers stay", 4, () -> t.layer(0, 1, -1));
    }

    /** "thrown in a MINUTE, dry". */
    private static void bestInAMinuteDry() {
        FoldTower t = Check.schooled("sheet 1 1;tower 1;table 0 5 20;wind 0 1 0;wind 9 4 0;wind 4 -5 0;");
        int[] due = {6, 5, 5, 5, 0, 5, 5, 5, 5, 9};
        for (int minute = 0; minute < 10; minute++) {
            int m = minute;
            Check.is("BEST in minute " + m, due[m], () -> t.best(0, 4, m));
            Check.is("BEST in minute " + m + ", trim", m == 4 ? -3 : 0, () -> t.found(-2));
        }
        // Dry: by trim 3 six steps of 2. Wet: by trim 0 two of 5 were more.
        FoldTower dry = Check.schooled("sheet 1 1;tower 6;table 0 5 4;");
        Check.is("BEST dry", 12, () -> dry.best(0, 0, 0));
        foundIs("BEST dry", dry, 3);
    }

    /** "with each TRIM": a window of one height is gone through by one of them. */
    private static void bestOfEachTrim() {
        int[] far = {56, 80, 135, 300};
        for (int i = 0; i < 4; i++) {
            int high = 26 + i;
            int due = far[i];
            FoldTower t = Check.schooled("sheet 1 1;table 0 10 1;window 7 " + high + " " + high + ";");
            Check.is("BEST by trim " + (i - 3), due, () -> t.best(2, 4, 5));
            foundIs("BEST by trim " + (i - 3), t, i - 3);
        }
        for (int trim = 0; trim <= 3; trim++) {
            int due = 200 * (10 - trim);
            FoldTower t = Check.schooled("sheet 1 1;table 0 10 " + trim + ";window 7 30 30;");
            Check.is("BEST by trim " + trim, due, () -> t.best(2, 4, 5));
            foundIs("BEST by trim " + trim, t, trim);
        }
    }

    /** "or through the WINDOW, of these with the greatest FAR"; "-10000: none goes through". */
    private static void bestThroughWindow() {
        FoldTower t = Check.schooled("sheet 1 1;table 0 10 1;window 7 26 28;");
        Check.is("BEST through the WINDOW", 135, () -> t.best(2, 0, 0));
        foundIs("BEST through the WINDOW", t, -1);
        Check.is("BEST past the WINDOW", 1800, () -> t.best(0, 0, 0));
        foundIs("BEST past the WINDOW", t, 1);
        FoldTower none = Check.schooled("sheet 1 1;table 0 10 1;window 7 25 25;");
        Check.is("BEST, none goes through", -10000, () -> none.best(2, 4, 0));
        Check.none("BEST, none is kept", () -> none.found(-1));
        Check.is("BEST, farthest", 1800, () -> none.best(0, 0, 0));
        Check.is("BEST, none goes through again", -10000, () -> none.best(2, 4, 0));
        foundIs("BEST, what is kept stays", none, 1);
        FoldTower high = Check.schooled("tower 20;table 8 8 20;sheet 1 6;known nose 1;window 8 0 0;table 5 1 20;"
                + "table 6 1 20;table 7 1 20;");
        Check.is("BEST through the WINDOW by four folds", 8, () -> high.best(2, 4, 0));
        foundIs("BEST through the WINDOW by four folds", high, 0, 0, 0, 0, 0);
        Check.is("BEST through the WINDOW by three folds", -10000, () -> high.best(2, 3, 0));
    }

    /** "longest": LONG; like ones are not parted by FAR, but as like ones of all kinds. */
    private static void bestLongest() {
        FoldTower t = Check.schooled("sheet 1 1;tower 9;table 0 5 4;");
        Check.is("BEST, longest", 9, () -> t.best(1, 4, 0));
        foundIs("BEST, longest", t, 3);
        StringBuilder lifts = new StringBuilder("sheet 1 1;table 0 5 0;");
        for (int m = 0; m < 10; m++) {
            lifts.append("wind ").append(m).append(" 0 5;");
        }
        FoldTower all = Check.schooled(lifts.toString());
        Check.is("BEST, all are longest", 200, () -> all.best(1, 4, 0));
        foundIs("BEST, all are longest", all, -3);
        Check.is("BEST, farthest of them", 1000, () -> all.best(0, 4, 0));
        foundIs("BEST, farthest of them", all, 0);
    }

    /** "of like ones that of fewest FOLDS": though it is not the first as a row of numbers. */
    private static void likeOnesFewestFolds() {
        FoldTower t = Check.schooled(ONE_STEP + "sheet 2 8;known left 1;known nose 1;");
        Check.is("BEST of like ones by 1 and by 0, 1", 6, () -> t.best(0, 2, 0));
        foundIs("BEST of like ones by 1 and by 0, 1", t, 0, 1);
        FoldTower still = Check.schooled("sheet 8 8;table 5 20 20;tower 1;known left 4;known nose 4;");
        Check.is("BEST of like ones, none at all", 20, () -> still.best(0, 4, 0));
        foundIs("BEST of like ones, none at all", still, 0);
    }

    /** "then the first as a row of numbers of KNOWN FOLDS (in the order told; without: left 1, left 2, ..)". */
    private static void likeOnesFirstRow() {
        // Of two folds nose 2, nose 1 and nose 3, nose 1 and nose 3, nose 2 make NOSINESS 7; no others do.
        String text = ONE_STEP + "sheet 1 8;";
        firstRow(text + "known nose 1;known nose 2;known nose 3;", 7, 2, 1, 0);
        firstRow(text + "known nose 3;known nose 2;known nose 1;", 7, 2, 0, 1);
        firstRow(text + "known nose 2;known nose 3;known nose 1;", 7, 2, 0, 2);
        firstRow(text + "known nose 2;known nose 1;known nose 3;", 7, 2, 0, 1);
        firstRow(text + "known nose 3;known nose 1;known nose 2;", 7, 2, 0, 1);
        firstRow(text + "known nose 1;known nose 3;known nose 2;", 7, 2, 1, 0);
        // By one fold nose 1 and nose 2 make 6, the first is that told first.
        firstRow(text + "known nose 2;known nose 1;", 6, 1, 0);
        // Without, nose 1 and nose 2 make 6, tail 1 and tail 2 make 4.
        String plain = "sheet 1 8;tower 1;table 5 1 20;";
        firstRow(plain + "table 6 9 20;table 4 8 20;", 9, 1, 4);
        firstRow(plain + "table 6 8 20;table 4 9 20;", 9, 1, 6);
    }

    private static void firstRow(String text, int due, int l, int... row) {
        FoldTower t = Check.schooled(text);
        Check.is("BEST, first of like ones: " + text, due, () -> t.best(0, l, 0));
        foundIs("BEST, first of like ones: " + text, t, 0, row);
    }

    /** "then the least TRIM". */
    private static void likeOnesLeastTrim() {
        FoldTower still = Check.schooled("table 5 0 20;known left 1;known left 2;");
        Check.is("BEST of like ones, not far", 0, () -> still.best(0, 4, 0));
        foundIs("BEST of like ones, not far", still, -3);
        FoldTower once = Check.schooled("sheet 1 1;tower 1;table 0 9 20;");
        Check.is("BEST of like ones, one step long", 1, () -> once.best(1, 4, 0));
        foundIs("BEST of like ones, one step long", once, -3);
        FoldTower two = Check.schooled("sheet 1 1;table 0 9 2;");
        Check.is("BEST of like ones, by 2 and by 3", 200, () -> two.best(1, 4, 0));
        foundIs("BEST of like ones, by 2 and by 3", two, 2);
    }

    /** What a call found changes nothing for the next one; but by a turn it comes through so low a window. */
    private static void bestAgain() {
        for (String side : new String[] {"left", "right"}) {
            FoldTower t = Check.schooled("sheet 3 1;known " + side + " 1;table 0 1 1;tower 100;window 4 64 64;");
            for (int i = 1; i <= 3; i++) {
                Check.is("BEST by a turn to the " + side + ", time " + i, 4, () -> t.best(2, 4, 0));
                foundIs("BEST by a turn to the " + side + ", time " + i, t, 0, 0);
                Check.is("BEST without a turn, time " + i, 1, () -> t.rows(0, true));
            }
        }
    }

    /** "of all ROWS .. that can be .. with each TRIM": as by folding and throwing each one, in the order of like ones. */
    private static void bestIsThatOfAll() {
        String[] sheets = {"sheet 3 4;", "sheet 5 3;", "sheet 4 6;", "sheet 8 5;", "sheet 6 1;", "sheet 3 8;"};
        String[] tables = {"table 5 3 9;table 6 4 2;table 4 9 1;table 3 12 3;wind 2 5 0;wind 0 0 -3;wind 7 -2 2;window 12 3 25;",
            "tower 77;table 5 1 1;table 6 3 6;table 4 2 3;table 3 2 2;wind 1 4 -1;wind 3 -3 1;wind 4 2 0;window 9 10 66;"};
        String[] known = {"known right 1;known tail 1;known left 2;", "known nose 2;known left 1;known nose 1;known right 1;"};
        int of = 0;
        for (String sheet : sheets) {
            for (String table : tables) {
                String text = sheet + table + known[of % 2];
                int minute = of % 10;
                for (int what = 0; what < 3; what++) {
                    bestIsThatOf(text, 3 + of % 2, what, minute);
                }
                of++;
            }
        }
    }

    private static void bestIsThatOf(String text, int known, int what, int minute) {
        FoldTower t = Check.schooled(text);
        int best = -10000;
        String due = "";
        for (int row = 0; row < 1 + known + known * known; row++) {
            // 0 is the row of none; then those of one, then those of two, as rows of numbers.
            int two = row - 1 - known;
            int[] folds = row == 0 ? new int[0] : two < 0 ? new int[] {row - 1} : new int[] {two / known, two % known};
            FoldTower one = Check.schooled(text);
            boolean can = true;
            for (int k : folds) {
                String told = text.split("known ")[1 + k];
                can &= Check.row(one, told) == 1;
            }
            for (int trim = -3; trim <= 3 && can; trim++) {
                int value = one.flight(minute, trim, false, what == 1 ? 1 : 0);
                if (value > best && (what < 2 || one.flight(minute, trim, false, 3) == 1)) {
                    best = value;
                    due = Arrays.toString(folds) + " " + trim;
                }
            }
        }
        int value = best;
        Check.is("BEST " + what + " of all by " + text, value, () -> t.best(what, 2, minute));
        int[] found = new int[best == -10000 ? 0 : t.found(-1)];
        for (int i = 0; i < found.length; i++) {
            found[i] = t.found(i);
        }
        String got = best == -10000 ? "" : Arrays.toString(found) + " " + t.found(-2);
        Check.same("BEST " + what + " of all by " + text + ": which", due, got);
    }

    /** "SPENT: more than 5000 ROWS can be": 4998 and 5027 are the next to it that there are. */
    private static void spent() {
        FoldTower most = Check.schooled(ROWS_4998 + "tower 1;");
        Check.is("SPENT not by 4998, longest", 200, () -> most.best(1, 4, 0));
        foundIs("SPENT not by 4998, longest", most, 2);
        Check.same("SPENT not by 4998, farthest", false, Check.told(() -> most.best(0, 4, 0)).equals("-20000"));
        Check.is("SPENT not by 4998, as they lie", 1, () -> most.rows(4, true));
        Check.is("SPENT not by 4998, by creases", 1, () -> most.rows(4, false));
        FoldTower spent = Check.schooled(ROWS_5027 + "tower 1;window 200 200 200;");
        Check.is("SPENT not by 0 to 3", 200, () -> spent.best(1, 3, 0));
        foundIs("SPENT not by 0 to 3", spent, 2);
        for (int what = 0; what < 3; what++) {
            int w = what;
            Check.is("SPENT, best " + w, -20000, () -> spent.best(w, 4, 0));
            foundIs("SPENT, what is kept stays", spent, 2);
            Check.illegal("SPENT, the MINUTE ahead of it", () -> spent.best(w, 4, 10));
        }
        Check.is("none goes through by 0 to 3", -10000, () -> spent.best(2, 3, 0));
        Check.none("SPENT, another what ahead of it", () -> spent.best(3, 4, 0));
        Check.is("SPENT, FOLDED SO", -2, () -> spent.rows(4, false));
        Check.is("SPENT, ALIKE", -2, () -> spent.rows(4, true));
        foundIs("SPENT, what is kept stays by rows", spent, 2);
        Check.is("SPENT not, FOLDED SO by 0 to 3", 1, () -> spent.rows(3, false));
        foundIs("SPENT not, FOLDED SO by 0 to 3", spent, 0);
    }

    private static String winds(int[] pushes, int[] weights) {
        StringBuilder s = new StringBuilder();
        for (int m = 0; m < 10; m++) {
            s.append("wind ").append(m).append(' ').append(pushes[m]).append(" 0 ").append(weights[m]).append(';');
        }
        return s.toString();
    }

    private static void meanIs(String what, FoldTower t, int upper, int lower) {
        Check.is("MEAN " + what + ", upper", upper, () -> t.mean(0, 0));
        Check.is("MEAN " + what + ", lower", lower, () -> t.mean(0, 1));
    }

    /** "by all MINUTES, by WEIGHT each, together, by all WEIGHTS": FAR is 5 and the push. */
    private static void meanOfWeights() {
        String one = "sheet 1 1;tower 1;table 0 5 20;";
        int[] pushes = {1, 2, 3, 4, 5, -1, -2, -3, -4, -5};
        for (int m = 0; m < 10; m++) {
            int[] weights = new int[10];
            weights[m] = 99;
            meanIs("of minute " + m + " alone", Check.schooled(one + winds(pushes, weights)), 5 + pushes[m], 1);
            weights[m] = 1;
            meanIs("of minute " + m + " alone, by 1", Check.schooled(one + winds(pushes, weights)), 5 + pushes[m], 1);
        }
        // 6 by 99, 7 by 1 are 601 by 100.
        meanIs("of 99 and 1", Check.schooled(one + winds(pushes, new int[] {99, 1, 0, 0, 0, 0, 0, 0, 0, 0})), 601, 100);
        meanIs("of all alike", Check.schooled(one + winds(pushes, new int[] {7, 7, 7, 7, 7, 7, 7, 7, 7, 7})), 5, 1);
        FoldTower none = Check.schooled(one + winds(pushes, new int[10]));
        meanIs("of none: 0 by 1", none, 0, 1);
        meanIs("of none is far", Check.schooled("sheet 1 1;tower 1;table 0 0 20;"), 0, 1);
        FoldTower trimmed = Check.schooled(one);
        for (int trim = -3; trim <= 3; trim++) {
            int r = trim;
            Check.is("MEAN by trim " + r, 5 - Math.abs(r), () -> trimmed.mean(r, 0));
            Check.is("MEAN by trim " + r + ", lower", 1, () -> trimmed.mean(r, 1));
        }
    }

    /** "as a fraction in lowest terms": nothing to be lowered, and the greatest WEIGHTS. */
    private static void meanInLowestTerms() {
        String one = "sheet 1 1;tower 1;table 0 5 20;";
        int[] last = {0, 0, 0, 0, 0, 0, 0, 0, 0, 1};
        int[] most = {99, 99, 99, 99, 99, 99, 99, 99, 99, 99};
        // 50 and 1 by 99 each, of 990: 51 by 10.
        meanIs("by the greatest weights", Check.schooled(one + winds(last, most)), 51, 10);
        int[] prime = {99, 99, 99, 99, 99, 99, 99, 99, 99, 98};
        // 891 by 5 and 98 by 6, of 989.
        meanIs("with nothing to be lowered", Check.schooled(one + winds(last, prime)), 5043, 989);
        int[] windy = {5, 5, 5, 5, 5, 5, 5, 5, 5, 5};
        FoldTower ever = Check.schooled("sheet 1 1;table 0 20 0;" + winds(windy, most));
        meanIs("of as far as can be", ever, 5000, 1);
        meanIs("of 2 and 4 and 6", Check.schooled("sheet 1 1;tower 1;table 0 4 20;"
                + winds(new int[] {-2, 0, 2, 0, 0, 0, 0, 0, 0, 0}, new int[] {3, 4, 5, 0, 0, 0, 0, 0, 0, 0})), 13, 3);
    }

    /** "the upper part may be below 0": to the left, and back by the push of minute 2. */
    private static void meanBelow0() {
        String text = "sheet 3 8;table 5 0 1;tower 3;";
        int[] pushes = {0, 0, 5, 0, 0, 0, 0, 0, 0, 0};
        FoldTower t = Check.schooled(text + winds(pushes, new int[] {2, 2, 0, 0, 0, 0, 0, 0, 0, 0}));
        t.fold(0, 1);
        meanIs("below 0", t, -5, 2);
        FoldTower whole = Check.schooled(text + winds(pushes, new int[] {2, 0, 0, 0, 0, 0, 0, 0, 0, 0}));
        whole.fold(0, 1);
        meanIs("below 0 by 1", whole, -5, 1);
        FoldTower even = Check.schooled(text + winds(pushes, new int[] {2, 0, 2, 0, 0, 0, 0, 0, 0, 0}));
        even.fold(0, 1);
        meanIs("of 5 and 5 below 0", even, 0, 1);
        even.undo();
        meanIs("of what is FOLDED now", even, 5, 1);
    }

    private static FoldTower folded(String school, String row) {
        FoldTower t = Check.schooled(school);
        Check.row(t, row);
        return t;
    }

    private static void rowsAre(String what, FoldTower t, int l, boolean alike, int due, int... first) {
        Check.is(what + ": how many of 0 to " + l, due, () -> t.rows(l, alike));
        foundIs(what, t, 0, first);
    }

    /** "how many ROWS of 0 to L KNOWN FOLDS leave just the CREASES that there are now". */
    private static void foldedSo() {
        for (int l = 0; l <= 4; l++) {
            rowsAre("FOLDED SO, plain", new FoldTower(), l, false, 1);
        }
        FoldTower two = folded("sheet 4 1;", "left 1;right 1;");
        Check.is("FOLDED SO, of 0 none", 0, () -> two.rows(0, false));
        Check.is("FOLDED SO, of 0 to 1 none", 0, () -> two.rows(1, false));
        Check.none("FOLDED SO, none is kept", () -> two.found(-1));
        rowsAre("FOLDED SO, in either order", two, 2, false, 2, 0, 2);
        rowsAre("FOLDED SO, not with more creases", two, 4, false, 2, 0, 2);
        // A valley between all: each row of three of left 1 and right 1.
        FoldTower three = folded("sheet 4 1;", "right 1;right 1;left 1;");
        rowsAre("FOLDED SO, by each of three", three, 3, false, 8, 0, 0, 0);
        rowsAre("FOLDED SO, by each of three, of four", three, 4, false, 8, 0, 0, 0);
        Check.is("FOLDED SO, of two none", 0, () -> three.rows(2, false));
        foundIs("FOLDED SO, what is kept stays", three, 0, 0, 0, 0);
        FoldTower four = folded("sheet 1 5;known tail 1;known nose 1;", "nose 1;nose 1;tail 1;tail 1;");
        rowsAre("FOLDED SO, by each of four", four, 4, false, 16, 0, 0, 0, 0);
        FoldTower unknown = folded("sheet 4 1;known left 2;", "left 1;");
        Check.is("FOLDED SO, by none that is known", 0, () -> unknown.rows(4, false));
        Check.none("FOLDED SO, by none that is known, none is kept", () -> unknown.found(-1));
        FoldTower more = folded("sheet 6 1;known left 1;", "left 1;left 1;left 1;left 1;left 1;");
        Check.is("FOLDED SO, by five", 0, () -> more.rows(4, false));
        FoldTower by = folded("sheet 4 1;known right 2;", "left 2;");
        rowsAre("FOLDED SO, by another fold", by, 4, false, 1, 0);
    }

    /** "(VALLEYS, MOUNTAINS)": each crease of its kind, by whichever fold it came. */
    private static void foldedSoByKinds() {
        FoldTower left = folded("sheet 4 1;", "left 2;left 1;");
        rowsAre("FOLDED SO, mountain, valley, valley", left, 4, false, 2, 1, 0);
        FoldTower right = folded("sheet 4 1;", "right 2;left 1;");
        rowsAre("FOLDED SO, valley, valley, mountain", right, 4, false, 2, 3, 0);
        FoldTower down = folded("sheet 2 2;", "nose 1;left 1;");
        rowsAre("FOLDED SO, mountain ahead", down, 4, false, 2, 4, 0);
        FoldTower up = folded("sheet 2 2;", "tail 1;left 1;");
        rowsAre("FOLDED SO, mountain behind", up, 4, false, 2, 6, 0);
        FoldTower across = folded("sheet 2 2;", "left 1;tail 1;");
        rowsAre("FOLDED SO, mountain at the left", across, 4, false, 2, 0, 4);
    }

    /** "ALIKE: ROWS likewise by which WEIGHTS of all places are as they are now". */
    private static void alike() {
        for (int l = 0; l <= 4; l++) {
            rowsAre("ALIKE, plain", new FoldTower(), l, true, 1);
        }
        FoldTower half = folded("sheet 4 1;", "right 1;left 1;");
        rowsAre("ALIKE, by one", half, 1, true, 2, 1);
        rowsAre("ALIKE, by one or two", half, 2, true, 4, 1);
        FoldTower left = folded("sheet 3 1;", "left 1;");
        rowsAre("ALIKE, not the other way round", left, 1, true, 1, 0);
        FoldTower lengthwise = folded("sheet 1 3;", "tail 1;");
        rowsAre("ALIKE, not from the nose", lengthwise, 1, true, 1, 6);
        FoldTower none = folded("sheet 5 1;known left 1;", "right 1;");
        Check.is("ALIKE, by none", 0, () -> none.rows(4, true));
        Check.none("ALIKE, none is kept", () -> none.found(-1));
        none.undo();
        Check.is("ALIKE, plain again", 1, () -> none.rows(0, true));
        none.fold(1, 1);
        Check.is("ALIKE, by none again", 0, () -> none.rows(4, true));
        foundIs("ALIKE, what is kept stays", none, 0);
    }

    /** "(of as many columns, rows)". */
    private static void alikeOfAsManyColumns() {
        FoldTower one = folded("sheet 2 2;", "left 1;");
        rowsAre("ALIKE of one column", one, 1, true, 2, 0);
        FoldTower other = folded("sheet 2 2;", "tail 1;");
        rowsAre("ALIKE of one row", other, 1, true, 2, 4);
        FoldTower all = folded("sheet 2 2;", "tail 1;right 1;");
        // Left or right, nose or tail, in either order.
        rowsAre("ALIKE of one place", all, 4, true, 8, 0, 4);
        rowsAre("ALIKE of one place, one row's", folded("sheet 4 1;", "left 1;left 1;left 1;"), 2, true, 4, 1, 0);
    }

    private static final String EVENING = "sheet 1 1;tower 1;table 0 3 20;";

    private static void eveningIs(FoldTower t, int bits, int due, int... trims) {
        Check.is("AN EVENING of " + bits, due, () -> t.evening(bits));
        int i = 0;
        for (int minute = 0; minute < 10; minute++) {
            int m = minute;
            if ((bits >> minute & 1) != 0) {
                Check.is("AN EVENING of " + bits + ", minute " + m, trims[i], () -> t.trim(m));
                i++;
            } else {
                Check.none("AN EVENING of " + bits + ", minute " + m, () -> t.trim(m));
            }
        }
    }

    /** "in each of some MINUTES (bits)": one of each, the first and the last seven, none too many. */
    private static void eveningOfMinutes() {
        FoldTower t = Check.schooled(EVENING + winds(new int[] {0, 1, 2, 3, 4, 5, -1, -2, -3, -5}, new int[10]));
        int[] far = {3, 4, 5, 6, 7, 8, 2, 1, 0, 0};
        for (int m = 0; m < 10; m++) {
            eveningIs(t, 1 << m, far[m], far[m] == 0 ? -3 : 0);
        }
        FoldTower even = Check.schooled(EVENING);
        eveningIs(even, 127, 9, -3, -2, -1, 0, 1, 2, 3);
        eveningIs(even, 127 << 3, 9, -3, -2, -1, 0, 1, 2, 3);
        eveningIs(even, 0b1010101101, 9, -3, -2, -1, 0, 1, 2);
        for (int bits : new int[] {0, 255, 1023, 1024, 1025, -1, Integer.MIN_VALUE, Integer.MAX_VALUE, 0x10000}) {
            Check.illegal("AN EVENING of " + bits, () -> even.evening(bits));
        }
    }

    /** "by some TRIMS (-3 to 3, each at most once) .. so that FAR all together is most". */
    private static void eveningEachTrimOnce() {
        FoldTower even = Check.schooled(EVENING);
        eveningIs(even, 3, 5, -1, 0);
        eveningIs(even, 7, 7, -1, 0, 1);
        eveningIs(even, 15, 8, -2, -1, 0, 1);
        // Fewer minutes than in the latest one: what is not thrown now counts for nothing.
        eveningIs(even, 7, 7, -1, 0, 1);
        eveningIs(even, 3, 5, -1, 0);
        eveningIs(even, 1 << 9, 3, 0);
        String text = "sheet 1 1;tower 9;table 0 6 4;wind 0 2 1;wind 1 -1 2;wind 2 0 -2;wind 5 3 1;";
        for (int bits : new int[] {7, 0b100011, 0b1000000101, 0b110110, 0b1101110011}) {
            FoldTower t = Check.schooled(text);
            int[][] far = new int[10][7];
            for (int m = 0; m < 10; m++) {
                for (int trim = -3; trim <= 3; trim++) {
                    far[m][trim + 3] = t.flight(m, trim, false, 0);
                }
            }
            int due = most(far, bits, 0, 0);
            Check.is("AN EVENING is the most of all, " + bits, due, () -> t.evening(bits));
            Check.is("AN EVENING's trims make it, " + bits, due, () -> together(t, bits));
        }
    }

    private static int most(int[][] far, int bits, int minute, int used) {
        if (minute == 10) {
            return 0;
        }
        if ((bits >> minute & 1) == 0) {
            return most(far, bits, minute + 1, used);
        }
        int most = Integer.MIN_VALUE;
        for (int trim = 0; trim < 7; trim++) {
            if ((used >> trim & 1) == 0) {
                most = Math.max(most, far[minute][trim] + most(far, bits, minute + 1, used | 1 << trim));
            }
        }
        return most;
    }

    private static int together(FoldTower t, int bits) {
        int far = 0;
        for (int m = 0; m < 10; m++) {
            far += (bits >> m & 1) == 0 ? 0 : t.flight(m, t.trim(m), false, 0);
        }
        return far;
    }

    /** "of like ones the first as a row by MINUTES of TRIMS". */
    private static void eveningLikeOnes() {
        // In minute 0 it is 2 less: 0 but for trim 0, of which it is 1.
        FoldTower t = Check.schooled(EVENING + "wind 0 -2 0;");
        eveningIs(t, 3, 3, -3, 0);
        FoldTower second = Check.schooled(EVENING + "wind 1 -2 0;");
        eveningIs(second, 3, 3, -1, 0);
        FoldTower still = Check.schooled("sheet 1 1;tower 1;table 0 0 20;");
        eveningIs(still, 0b1000000001, 0, -3, -2);
        eveningIs(still, 127, 0, -3, -2, -1, 0, 1, 2, 3);
    }

    /** Back by the push of minute 2: all together below 0. */
    private static void eveningBelow0() {
        FoldTower t = folded("sheet 3 8;table 5 0 20;tower 60;wind 2 5 0;", "left 1;");
        eveningIs(t, 1, -2, -3);
        FoldTower four = folded("sheet 3 8;table 5 0 20;tower 60;wind 2 4 0;", "left 1;");
        eveningIs(four, 1, -1, -3);
    }

    private static FoldTower taughtRows(int... rows) {
        FoldTower t = Check.schooled("known left 1;known left 2;known left 3;known left 4;known nose 1;");
        for (int i = 0; i < rows.length; i++) {
            int[] n = new int[4];
            String row = Integer.toString(rows[i]);
            for (int k = 0; k < 4; k++) {
                n[k] = k < row.length() ? row.charAt(k) - '1' : -1;
            }
            int due = i + 1;
            Check.is("ROW to be taught " + row, due, () -> t.teach(n[0], n[1], n[2], n[3]));
        }
        return t;
    }

    private static void taughtAre(String what, FoldTower t, int... order) {
        Check.is("TAUGHT, " + what + ": how many", order.length, () -> t.taught(-1));
        for (int i = 0; i < order.length; i++) {
            int k = i;
            Check.is("TAUGHT, " + what + ": " + k, order[k], () -> t.taught(k));
        }
        Check.none("TAUGHT, " + what + ": no more", () -> t.taught(order.length));
    }

    /** "one can be, if it is a single FOLD". */
    private static void taughtSingle() {
        taughtAre("none", taughtRows());
        taughtAre("one single", taughtRows(1), 0);
        taughtAre("none of two, three, four", taughtRows(12, 123, 1234));
        taughtAre("each single", taughtRows(5, 4, 3, 2, 1), 0, 1, 2, 3, 4);
        taughtAre("12 single ones", taughtRows(1, 2, 3, 4, 5, 1, 2, 3, 4, 5, 1, 2),
                0, 1, 2, 3, 4, 5, 6, 7, 8, 9, 10, 11);
    }

    /** "or is one that is taught already with one FOLD more behind it". */
    private static void taughtOneMore() {
        taughtAre("one more each", taughtRows(1, 12, 123, 1234), 0, 1, 2, 3);
        taughtAre("one more each, told from the last", taughtRows(1234, 123, 12, 1), 3, 2, 1, 0);
        taughtAre("not one more in front", taughtRows(1, 21), 0);
        taughtAre("not two more", taughtRows(1, 123, 1234), 0);
        taughtAre("not another", taughtRows(1, 22), 0);
        taughtAre("the like one more", taughtRows(1, 11, 111, 1111), 0, 1, 2, 3);
        taughtAre("not one more within", taughtRows(1, 12, 132), 0, 1);
        taughtAre("not one more behind another", taughtRows(1, 12, 323), 0, 1);
        taughtAre("by each number", taughtRows(5, 51, 52, 53, 54, 55), 0, 1, 2, 3, 4, 5);
        taughtAre("not what can't be itself", taughtRows(12, 123, 2), 2);
    }

    /** "or with one FOLD of it left out". */
    private static void taughtOneLeftOut() {
        taughtAre("one of four left out", taughtRows(1, 12, 123, 1234, 234, 134, 124), 0, 1, 2, 3, 4, 5, 6);
        taughtAre("two of four left out", taughtRows(1, 12, 123, 1234, 34), 0, 1, 2, 3);
        taughtAre("one of four, then one of three left out", taughtRows(1, 12, 123, 1234, 34, 234), 0, 1, 2, 3, 5, 4);
        taughtAre("the first of three left out", taughtRows(1, 12, 123, 23), 0, 1, 2, 3);
        taughtAre("the middle of three left out", taughtRows(1, 12, 123, 13), 0, 1, 2, 3);
        taughtAre("the middle of three left out, the other way", taughtRows(1, 12, 123, 31), 0, 1, 2);
        taughtAre("like ones", taughtRows(1, 11, 112, 12, 12), 0, 1, 2, 3, 4);
        taughtAre("not as many of others", taughtRows(1, 12, 123, 24), 0, 1, 2);
        taughtAre("not one in its place", taughtRows(1, 12, 32), 0, 1);
    }

    /** "how many can be in the end; in which order (the least number each time)". */
    private static void taughtInOrder() {
        taughtAre("the least each time, not the next", taughtRows(1234, 123, 12, 1, 1), 3, 2, 1, 0, 4);
        taughtAre("the least behind the last", taughtRows(23, 1, 12, 123, 2), 1, 2, 3, 0, 4);
        taughtAre("of 12 all, told from the last",
                taughtRows(1234, 234, 34, 134, 14, 124, 24, 123, 23, 13, 12, 1), 11, 4, 9, 3, 2, 10, 5, 6, 7, 0, 1, 8);
    }

    /** "how many calls were refused: 0 TEXTS with a FAULT, 1 FOLDS that can't be, 2 ROWS to be taught". */
    private static void status() {
        FoldTower t = new FoldTower();
        for (int i = 1; i <= 20; i++) {
            int n = i;
            Check.school(t, "x");
            Check.is("STATUS 0 by a school", 3 * n - 2, () -> t.count(11));
            Check.row(t, "x");
            Check.row(t, "left 5;");
            Check.is("STATUS 0 by rows", 3 * n, () -> t.count(11));
            t.fold(0, 3);
            Check.row(t, "left 3;left 3;");
            Check.is("STATUS 1 by a fold and a row", 2 * n, () -> t.count(12));
            t.teach(-1, -1, -1, -1);
            Check.is("STATUS 2", n, () -> t.count(13));
        }
        Check.none("STATUS, an exception tells it", () -> t.fold(4, 9));
        Check.illegal("STATUS, an exception tells it", () -> t.school(1));
        Check.illegal("STATUS, an exception tells it", () -> t.row(-1));
        Check.is("STATUS 0, not where an exception tells it", 60, () -> t.count(11));
        Check.is("STATUS 1, not where an exception tells it", 40, () -> t.count(12));
    }

    /** "AN IMAGE keeps what is FOLDED, ROWS to be taught, STATUS": as much as there may be, and nothing. */
    private static void imageKeeps() {
        FoldTower t = Check.schooled("sheet 8 8;");
        Check.row(t, "left1;".repeat(7) + "nose1;".repeat(7) + "nose 1;");
        for (int i = 0; i < 12; i++) {
            t.teach(i % 8, -1, -1, -1);
        }
        t.teach(0, -1, -1, -1);
        t.image();
        for (int i = 0; i < 14; i++) {
            t.undo();
        }
        t.fold(0, 5);
        Check.is("AN IMAGE of all", 1, () -> t.restore() ? 1 : 0);
        int[] due = {8, 8, 1, 1, 14, 112, 0, 0, 8, 12, 0, 0, 1, 1};
        for (int what = 0; what < 14; what++) {
            int w = what;
            Check.is("AN IMAGE of all, count " + w, due[w], () -> t.count(w));
        }
        Check.is("AN IMAGE of all, the last ROW", 11, () -> t.taught(11));
        Check.is("AN IMAGE of all, the last CREASE", 131, () -> t.crease(7, 6, true));
        FoldTower none = new FoldTower();
        none.image();
        none.fold(0, 1);
        none.fold(0, 9);
        none.teach(0, -1, -1, -1);
        Check.row(none, "x");
        Check.is("AN IMAGE of nothing", 1, () -> none.restore() ? 1 : 0);
        int[] plain = {4, 6, 4, 6, 0, 0, 5, 0, 8, 0, 0, 0, 0, 0};
        for (int what = 0; what < 14; what++) {
            int w = what;
            Check.is("AN IMAGE of nothing, count " + w, plain[w], () -> none.count(w));
        }
    }
}
