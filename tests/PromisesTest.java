/** Each promise of the document: ordinary calls, the edges that it names, wrong calls. */
public final class PromisesTest {
    private PromisesTest() {
    }

    public static void main(String[] args) {
        newObject();
        feed();
        school();
        schoolFaults();
        schoolKeepsAndForgets();
        row();
        fault();
        count();
        table();
        fold();
        undo();
        layer();
        crease();
        flight();
        flightTurns();
        flightThroughWindow();
        step();
        best();
        bestSpent();
        found();
        mean();
        rows();
        evening();
        trim();
        teach();
        taught();
        imageAndRestore();
        Check.end();
    }

    private static void newObject() {
        FoldTower t = new FoldTower();
        int[] due = {4, 6, 4, 6, 0, 0, 5, 0, 8, 0, 0, 0, 0, 0};
        for (int what = 0; what < due.length; what++) {
            int w = what;
            Check.is("1 count " + w, due[w], () -> t.count(w));
        }
        for (int i = 0; i < 10; i++) {
            int k = i;
            Check.is("1 FORWARD " + k, k, () -> t.table(k, 0));
            Check.is("1 SINK " + k, 1 + Math.abs(k - 6), () -> t.table(k, 1));
            Check.is("1 PUSH " + k, 0, () -> t.table(k, 2));
            Check.is("1 LIFT " + k, 0, () -> t.table(k, 3));
            Check.is("1 WEIGHT " + k, 1, () -> t.table(k, 4));
        }
        Check.is("1 TOWER", 30, () -> t.step(0, 0, false, 0, 1));
        Check.is("1 fault", -1, t::fault);
        Check.is("1 NONE", -1, () -> FoldTower.NONE);
        Check.none("1 BEST", () -> t.found(-1));
        Check.none("1 EVENING", () -> t.trim(0));
        Check.is("1 TAUGHT", 0, () -> t.taught(-1));
        Check.is("1 image", 0, () -> t.restore() ? 1 : 0);
    }

    private static void feed() {
        FoldTower t = new FoldTower();
        for (int i = 1; i <= 25; i++) {
            Check.is("2 feed", 20L * i, () -> t.feed(0x20202020, 0x0A0A0A0A, 0x20202020, 0x20202020, 0x20202020));
        }
        Check.is("2 full", -1, () -> t.feed(0, 0, 0, 0, 0));
        Check.is("2 none came", 500, () -> t.count(10));
        Check.is("2 blanks", 0, () -> t.school(500));
        Check.is("2 empty again", 0, () -> t.count(10));
        Check.is("2 highest first", 20, () -> t.feed(0x746F7765, 0x72207B3B, 0, 0, 0));
        Check.is("2 tower {", 1, () -> t.school(8));
        Check.is("2 the byte {", 6, t::fault);
        // Bytes above 127 are no blanks and no letters.
        t.feed(0x20FFFFFF, -1, -1, -1, -1);
        Check.is("2 high bytes", 1, () -> t.school(20));
        Check.is("2 high byte", 1, t::fault);
    }

    private static void school() {
        FoldTower t = Check.schooled("sheet 8 7;table 9 20 0;wind 3 -5 5 99;wind 4 - 0 -2;tower 200;window 200 200 200;"
                + "known tail 4;known nose 1;");
        Check.is("3 W", 8, () -> t.count(0));
        Check.is("3 H", 7, () -> t.count(1));
        Check.is("3 FORWARD", 20, () -> t.table(9, 0));
        Check.is("3 SINK", 0, () -> t.table(9, 1));
        Check.is("3 PUSH", -5, () -> t.table(3, 2));
        Check.is("3 LIFT", 5, () -> t.table(3, 3));
        Check.is("3 WEIGHT", 99, () -> t.table(3, 4));
        Check.is("3 PUSH -0", 0, () -> t.table(4, 2));
        Check.is("3 LIFT -2", -2, () -> t.table(4, 3));
        Check.is("3 WEIGHT without", 1, () -> t.table(4, 4));
        Check.is("3 TOWER", 200, () -> t.step(0, 0, false, 0, 1));
        Check.is("3 KNOWN", 2, () -> t.count(8));
        Check.is("3 an empty school", 0, () -> t.school(0));
        Check.is("3 anew W", 4, () -> t.count(0));
        Check.is("3 anew PUSH", 0, () -> t.table(3, 2));
        Check.is("3 anew KNOWN", 8, () -> t.count(8));
        Check.put(t, "sheet 2 2;");
        Check.illegal("3 below 0", () -> t.school(-1));
        Check.illegal("3 not so many", () -> t.school(21));
        Check.is("3 nothing changes", 20, () -> t.count(10));
        Check.is("3 leading zeros, no blanks", 0, () -> Check.school(t, "sheet002 3;tower7;"));
        Check.is("3 but the tape's first bytes", 0, () -> t.count(10));
        FoldTower u = new FoldTower();
        Check.is("3 zeros", 0, () -> Check.school(u, "sheet 002\n03;tower7;"));
        Check.is("3 W of zeros", 2, () -> u.count(0));
        Check.is("3 H of zeros", 3, () -> u.count(1));
    }

    private static void faultIs(String text, int kind, int place) {
        FoldTower t = new FoldTower();
        Check.is("school " + text, kind, () -> Check.school(t, text));
        Check.is("fault of " + text, place, t::fault);
        Check.is("STATUS of " + text, kind == 0 ? 0 : 1, () -> t.count(11));
    }

    private static void schoolFaults() {
        faultIs("tower 1", 1, 7);
        faultIs("tower 1  \n", 1, 10);
        faultIs("tower", 1, 5);
        faultIs(";", 1, 0);
        faultIs("  towers 1;", 1, 2);
        faultIs("Tower 1;", 1, 0);
        faultIs("tower -1;", 1, 6);
        faultIs("tower\t1;", 1, 5);
        faultIs("tower 1;;", 1, 8);
        faultIs("tower 1 1111;", 1, 8);
        faultIs("tower 0;", 2, 6);
        faultIs("tower 200;", 0, -1);
        faultIs("tower 201;", 2, 6);
        faultIs("tower 0001;", 2, 6);
        faultIs("tower 99999999999999;", 2, 6);
        faultIs("sheet 0 1;", 2, 6);
        faultIs("sheet 1 9;", 2, 8);
        faultIs("sheet 8 8;", 0, -1);
        faultIs("sheet 1 1;sheet 0 0;", 3, 10);
        faultIs("tower 1;tower", 3, 8);
        faultIs("window 1 0 0;window 1 0 0;", 3, 13);
        faultIs("window 0 0 0;", 2, 7);
        faultIs("window 1 201 0;", 2, 9);
        faultIs("window 1 5 201;", 2, 11);
        faultIs("window 1 5 4;", 2, 11);
        faultIs("window 1 5 5;", 0, -1);
        faultIs("table 10 0 0;", 2, 6);
        faultIs("table 9 21 0;", 2, 8);
        faultIs("table 9 0 21;", 2, 10);
        faultIs("table 1 0 0;table 2 0 0;table 1 99 0;", 3, 30);
        faultIs("table 1 0 0;wind 1 0 0;", 0, -1);
        faultIs("wind 10 0 0;", 2, 5);
        faultIs("wind 1 6 0;", 2, 7);
        faultIs("wind 1 -6 0;", 2, 8);
        faultIs("wind 1 --5 0;", 1, 8);
        faultIs("wind 1 0;", 1, 8);
        faultIs("wind 1 0 0 100;", 2, 11);
        faultIs("wind 1 0 0 -1;", 1, 11);
        faultIs("wind 1 0 0 1 1;", 1, 13);
        faultIs("wind 1 0 0;wind 1 0 0;", 3, 16);
        faultIs("known up 1;", 1, 6);
        faultIs("known leftaz 1;", 1, 6);
        faultIs("known left{ 1;", 1, 10);
        faultIs("known left` 1;", 1, 10);
        faultIs("tower 9/;", 1, 7);
        faultIs("tower 9:;", 1, 7);
        faultIs("known left 0;", 2, 11);
        faultIs("known left 5;", 2, 11);
        faultIs("known left 1;known left 1;", 4, 24);
        faultIs("known left 1;known right 1;known left 2;", 0, -1);
        String ten = "known left 1;known left 2;known left 3;known left 4;known nose 1;known nose 2;"
                + "known nose 3;known nose 4;known tail 1;known tail 2;";
        faultIs(ten, 0, -1);
        faultIs(ten + "known left 1;", 2, ten.length());
        faultIs(ten + "known", 2, ten.length());
    }

    private static void schoolKeepsAndForgets() {
        FoldTower t = Check.schooled("sheet 6 6;");
        t.fold(0, 1);
        t.fold(0, 4);
        t.teach(0, -1, -1, -1);
        t.teach(-1, -1, -1, -1);
        t.evening(1);
        t.best(0, 0, 0);
        t.image();
        Check.is("3 a fault", 1, () -> Check.school(t, "tower 5"));
        Check.is("3 with a fault W stays", 6, () -> t.count(0));
        Check.is("3 with a fault TOWER stays", 30, () -> t.step(0, 0, false, 0, 1));
        Check.is("3 with a fault FOLDS stay", 1, () -> t.count(4));
        Check.is("3 with a fault ROWS stay", 1, () -> t.count(9));
        Check.is("3 with a fault the BEST stays", 0, () -> t.found(-1));
        Check.same("3 with a fault AN EVENING stays", false, Check.told(() -> t.trim(0)).equals("none"));
        Check.is("3 with a fault the image stays", 1, () -> t.restore() ? 1 : 0);
        Check.is("3 the image has STATUS", 0, () -> t.count(11));
        Check.is("3 a fault again", 1, () -> Check.school(t, "x"));
        Check.is("3 a school", 0, () -> Check.school(t, "tower 5;"));
        Check.is("3 W anew", 4, () -> t.count(0));
        Check.is("3 FOLDS anew", 0, () -> t.count(4));
        Check.is("3 columns anew", 4, () -> t.count(2));
        Check.is("3 ROWS are gone", 0, () -> t.count(9));
        Check.none("3 the BEST is gone", () -> t.found(-1));
        Check.none("3 AN EVENING is gone", () -> t.trim(0));
        Check.is("3 the image is gone", 0, () -> t.restore() ? 1 : 0);
        Check.is("3 STATUS 0 stays", 1, () -> t.count(11));
        Check.is("3 STATUS 1 stays", 1, () -> t.count(12));
        Check.is("3 STATUS 2 stays", 1, () -> t.count(13));
    }

    private static void row() {
        FoldTower t = new FoldTower();
        Check.is("4 two", 2, () -> Check.row(t, "nose 1;left\n1 ;"));
        Check.is("4 rows", 5, () -> t.count(3));
        Check.is("4 columns", 3, () -> t.count(2));
        Check.is("4 till one can't be", 1, () -> Check.row(t, "tail1;left 2;nose 1;"));
        Check.is("4 the rest is left", 4, () -> t.count(3));
        Check.is("4 STATUS 1", 1, () -> t.count(12));
        Check.is("4 none at a fault", -2, () -> Check.row(t, "nose 1;left 1"));
        Check.is("4 too much", -3, () -> Check.row(t, "nose 1;left 5;"));
        Check.is("4 too long", -3, () -> Check.row(t, "nose 1;left 0001;"));
        Check.is("4 none, too", -3, () -> Check.row(t, "nose 0;"));
        Check.is("4 a word of a school", -2, () -> Check.row(t, "known left 1;"));
        Check.is("4 FOLDS", 3, () -> t.count(4));
        Check.is("4 STATUS 0", 5, () -> t.count(11));
        Check.is("4 STATUS 1 still", 1, () -> t.count(12));
        Check.is("4 like ones", 2, () -> Check.row(t, "nose 1;nose 1;"));
        Check.put(t, "left 1;");
        Check.illegal("4 below 0", () -> t.row(-1));
        Check.illegal("4 not so many", () -> t.row(21));
        Check.is("4 nothing changes", 20, () -> t.count(10));
        Check.is("4 an empty row", 0, () -> t.row(0));
        Check.is("4 the tape is empty", 0, () -> t.count(10));
        Check.is("4 to the end of the tape", 1, () -> {
            Check.put(t, "left 1;             ");
            return t.row(20);
        });
    }

    private static void fault() {
        FoldTower t = new FoldTower();
        Check.is("5 none", -1, t::fault);
        Check.school(t, "tower 7;tower");
        Check.is("5 of a school", 8, t::fault);
        Check.row(t, "left 1; ;");
        Check.is("5 of a row", 8, t::fault);
        Check.illegal("5 an exception", () -> t.row(1));
        Check.is("5 stays", 8, t::fault);
        Check.row(t, "left 1;");
        Check.is("5 without", -1, t::fault);
        Check.row(t, "left  ");
        Check.is("5 at the end", 6, t::fault);
        Check.school(t, "");
        Check.is("5 without, too", -1, t::fault);
    }

    private static void count() {
        FoldTower t = Check.schooled("sheet 5 3;known left 2;");
        t.fold(0, 2);
        t.fold(9 - 9, 2);
        t.teach(0, -1, -1, -1);
        t.teach(1, -1, -1, -1);
        t.feed(0, 0, 0, 0, 0);
        int[] due = {5, 3, 3, 3, 1, 3, 5, -6 + 3, 1, 1, 20, 0, 1, 1};
        for (int what = 0; what < due.length; what++) {
            int w = what;
            Check.is("6 count " + w, due[w], () -> t.count(w));
        }
        Check.none("6 -1", () -> t.count(-1));
        Check.none("6 14", () -> t.count(14));
        FoldTower flat = Check.schooled("sheet 3 1;");
        Check.is("6 NOSINESS of length 1", 0, () -> flat.count(6));
        FoldTower tailed = new FoldTower();
        tailed.fold(3, 3);
        // 8 by 0, 1 and 2: 9 by 24, by 24, by 2 are 4.5, cut down.
        Check.is("6 NOSINESS cut down", 5, () -> tailed.count(6));
        tailed.fold(3, 1);
        // 8 by 0 and 16 by 1: 9 by 16, by 24 are 6.
        Check.is("6 NOSINESS of the tail", 3, () -> tailed.count(6));
        tailed.fold(1, 1);
        Check.is("6 WINGS not of the middle", 0, () -> {
            tailed.undo();
            return tailed.count(7);
        });
        tailed.fold(1, 1);
        // Columns of 6, 6 and 12.
        Check.is("6 WINGS to the right", 6, () -> tailed.count(7));
    }

    private static void table() {
        FoldTower t = Check.schooled("table 2 3 4;wind 2 -1 5 6;");
        int[] due = {3, 4, -1, 5, 6};
        for (int what = 0; what < 5; what++) {
            int w = what;
            Check.is("7 table 2 " + w, due[w], () -> t.table(2, w));
        }
        Check.none("7 k -1", () -> t.table(-1, 0));
        Check.none("7 k 10", () -> t.table(10, 0));
        Check.none("7 what -1", () -> t.table(0, -1));
        Check.none("7 what 5", () -> t.table(0, 5));
    }

    private static void fold() {
        FoldTower t = Check.schooled("sheet 8 5;");
        Check.is("8 by half", 1, () -> t.fold(0, 4));
        Check.is("8 by more", -1, () -> t.fold(1, 3));
        Check.is("8 by 0", -1, () -> t.fold(1, 0));
        Check.is("8 below 0", -1, () -> t.fold(1, Integer.MIN_VALUE));
        Check.is("8 by far more", -1, () -> t.fold(1, Integer.MAX_VALUE));
        Check.is("8 STATUS", 4, () -> t.count(12));
        Check.is("8 right", 2, () -> t.fold(1, 1));
        Check.is("8 nose", 3, () -> t.fold(2, 2));
        Check.is("8 tail", 4, () -> t.fold(3, 1));
        Check.is("8 columns", 3, () -> t.count(2));
        Check.is("8 rows", 2, () -> t.count(3));
        Check.none("8 side -1", () -> t.fold(-1, 1));
        Check.none("8 side 4", () -> t.fold(4, 0));
        Check.is("8 exceptions are not counted", 4, () -> t.count(12));
        FoldTower most = Check.schooled("sheet 8 8;");
        for (int i = 0; i < 14; i++) {
            int side = i % 2 * 2 + i / 2 % 2;
            int due = i + 1;
            Check.is("8 fold " + i, due, () -> most.fold(side, 1));
        }
        Check.is("8 one cell wide", -1, () -> most.fold(0, 1));
        Check.is("8 all layers", 64, () -> most.layer(0, 0, -1));
    }

    private static void undo() {
        FoldTower t = new FoldTower();
        Check.is("9 none", -1, t::undo);
        t.fold(0, 1);
        t.fold(2, 3);
        Check.is("9 one left", 1, t::undo);
        Check.is("9 rows", 6, () -> t.count(3));
        Check.is("9 columns", 3, () -> t.count(2));
        Check.is("9 creases", 6, () -> t.count(5));
        Check.is("9 none left", 0, t::undo);
        Check.is("9 plain", 0, () -> t.count(5));
        Check.is("9 none again", -1, t::undo);
        Check.is("9 STATUS", 0, () -> t.count(12));
    }

    private static void layer() {
        FoldTower t = Check.schooled("sheet 4 1;");
        Check.is("10 plain", 3, () -> t.layer(3, 0, 0));
        t.fold(0, 1);
        t.fold(1, 1);
        int[] due = {1, 100, 2, 103};
        for (int i = 0; i < 4; i++) {
            int k = i;
            Check.is("10 layer " + k, due[k], () -> t.layer(k / 2, 0, k % 2));
        }
        t.fold(0, 1);
        int[] all = {2, 103, 0, 101};
        for (int i = 0; i < 4; i++) {
            int k = i;
            Check.is("10 layer of 4: " + k, all[k], () -> t.layer(0, 0, k));
        }
        Check.is("10 how many", 4, () -> t.layer(0, 0, -1));
        Check.none("10 no such layer", () -> t.layer(0, 0, 4));
        Check.none("10 layer -2", () -> t.layer(0, 0, -2));
        Check.none("10 x 1", () -> t.layer(1, 0, -1));
        Check.none("10 y 1", () -> t.layer(0, 1, -1));
        Check.none("10 x -1", () -> t.layer(-1, 0, 0));
        Check.none("10 y -1", () -> t.layer(0, -1, 0));
        FoldTower right = Check.schooled("sheet 5 1;");
        right.fold(1, 2);
        int[] over = {0, 1, 104, 2, 103};
        int[] x = {0, 1, 1, 2, 2};
        int[] i = {0, 0, 1, 0, 1};
        for (int k = 0; k < 5; k++) {
            int q = k;
            Check.is("10 right " + q, over[q], () -> right.layer(x[q], 0, i[q]));
        }
    }

    private static void crease() {
        FoldTower t = Check.schooled("sheet 4 2;");
        t.fold(1, 1);
        t.fold(3, 1);
        t.fold(0, 1);
        Check.is("11 right of the first fold", 1, () -> t.crease(2, 0, false));
        Check.is("11 in the lower line, too", 1, () -> t.crease(2, 1, false));
        Check.is("11 valley of the second", 11, () -> t.crease(0, 0, true));
        Check.is("11 mountain of the second", 12, () -> t.crease(3, 0, true));
        Check.is("11 valley of the third", 21, () -> t.crease(0, 0, false));
        Check.is("11 mountain of the third", 22, () -> t.crease(0, 1, false));
        Check.is("11 none", 0, () -> t.crease(1, 0, false));
        Check.none("11 right of the last", () -> t.crease(3, 0, false));
        Check.none("11 below the last", () -> t.crease(0, 1, true));
        Check.none("11 x -1", () -> t.crease(-1, 0, false));
        Check.none("11 y -1", () -> t.crease(0, -1, true));
        Check.none("11 y 2", () -> t.crease(0, 2, false));
        Check.none("11 x 4", () -> t.crease(4, 0, true));
        Check.is("11 the last corner", 0, () -> Check.schooled("sheet 2 2;").crease(1, 0, true));
    }

    private static void flight() {
        FoldTower t = new FoldTower();
        Check.is("12 FAR", 75, () -> t.flight(0, 0, false, 0));
        Check.is("12 LONG", 15, () -> t.flight(0, 0, false, 1));
        Check.is("12 aside", 0, () -> t.flight(0, 0, false, 2));
        Check.is("12 wet", 50, () -> t.flight(0, 0, true, 0));
        Check.is("12 trimmed up", 600, () -> t.flight(0, 2, false, 0));
        Check.is("12 trimmed more, 0 at least", 400, () -> t.flight(0, 3, false, 0));
        Check.is("12 wet takes it down again", 200, () -> t.flight(0, 3, true, 1));
        Check.is("12 trimmed down", 24, () -> t.flight(9, -2, false, 0));
        Check.none("12 what -1", () -> t.flight(0, 0, false, -1));
        Check.none("12 what 4 ahead of all", () -> t.flight(10, 9, false, 4));
        Check.illegal("12 minute -1", () -> t.flight(-1, 0, false, 0));
        Check.illegal("12 minute 10", () -> t.flight(10, 0, false, 0));
        Check.illegal("12 trim -4", () -> t.flight(0, -4, false, 0));
        Check.illegal("12 trim 4", () -> t.flight(0, 4, false, 0));
        FoldTower windy = Check.schooled("wind 0 -5 5;wind 8 2 -1;wind 9 1 1;tower 8;");
        // From minute 8: 7 far by 3, 6 far by 1, none by 0, then 5 by 2 twice.
        Check.is("12 by the minute", 23, () -> windy.flight(8, 0, false, 0));
        Check.is("12 steps by the minute", 5, () -> windy.flight(8, 0, false, 1));
        FoldTower low = Check.schooled("tower 1;table 5 0 20;");
        Check.is("12 one step", 1, () -> low.flight(0, 0, false, 1));
        Check.is("12 below 0", -19, () -> low.step(0, 0, false, 1, 1));
        FoldTower ever = Check.schooled("table 5 20 0;");
        Check.is("12 200 steps", 200, () -> ever.flight(0, 0, false, 1));
        Check.is("12 as far as can be", 4000, () -> ever.flight(0, 0, false, 0));
    }

    private static void flightTurns() {
        FoldTower left = new FoldTower();
        left.fold(0, 1);
        // 15 steps of 5: ahead, left, back, right, ... : 15 mod 4 are 3 more: ahead, left, back.
        Check.is("12 round, far", 0, () -> left.flight(0, 0, false, 0));
        Check.is("12 round, aside", -5, () -> left.flight(0, 0, false, 2));
        FoldTower right = Check.schooled("sheet 3 2;table 5 1 1;tower 10;");
        right.fold(1, 1);
        // WEIGHTS 2 and 4 wide: 2 more, so each 4th step.
        Check.is("12 each 4th", 0, () -> right.step(0, 0, false, 3, 2));
        Check.is("12 to the right", 1, () -> right.step(0, 0, false, 4, 2));
        Check.is("12 then back", 2, () -> right.step(0, 0, false, 8, 2));
        FoldTower one = Check.schooled("sheet 3 1;table 0 1 1;");
        one.fold(0, 1);
        Check.is("12 by 1: each 8th", 0, () -> one.step(0, 0, false, 7, 2));
        Check.is("12 to the left behind the 8th", 3, () -> one.step(0, 0, false, 8, 2));
        Check.is("12 back behind the 16th", 2, () -> one.step(0, 0, false, 16, 2));
        Check.is("12 right behind the 24th", 1, () -> one.step(0, 0, false, 24, 2));
        Check.is("12 aside", 0 - 8 + 6, () -> one.flight(0, 0, false, 2));
        FoldTower three = Check.schooled("sheet 3 3;table 4 1 1;");
        three.fold(0, 1);
        Check.is("12 by 3: not behind the 1st", 0, () -> three.step(0, 0, false, 1, 2));
        Check.is("12 by 3: each 2nd", 3, () -> three.step(0, 0, false, 2, 2));
    }

    private static void flightThroughWindow() {
        String[] windows = {"20 0 30", "20 22 22", "20 21 21", "20 23 200", "18 22 30", "75 0 0", "76 0 200", "1 28 28"};
        int[] due = {1, 1, 0, 0, 1, 1, 0, 1};
        for (int i = 0; i < windows.length; i++) {
            String text = "window " + windows[i] + ";";
            int want = due[i];
            Check.is("12 through " + text, want, () -> Check.schooled(text).flight(0, 0, false, 3));
        }
        FoldTower aside = Check.schooled("window 6 0 200;tower 100;wind 9 1 0;");
        aside.fold(0, 1);
        // Ahead 5, left, back to 0, right to 0 aside, ahead again: never 6, but by a push at the start.
        Check.is("12 never so far", 0, () -> aside.flight(0, 0, false, 3));
        Check.is("12 at once", 1, () -> aside.flight(9, 0, false, 3));
        FoldTower beside = Check.schooled("window 10 0 200;tower 20;wind 1 1 0;wind 4 5 0;");
        beside.fold(0, 1);
        Check.is("12 with something aside", 0, () -> beside.flight(0, 0, false, 3));
        Check.is("12 far enough", 10, () -> beside.step(0, 0, false, 5, 0));
    }

    private static void step() {
        FoldTower t = Check.schooled("wind 1 2 1;");
        Check.is("13 at first far", 0, () -> t.step(0, 0, false, 0, 0));
        Check.is("13 at first high", 30, () -> t.step(0, 0, false, 0, 1));
        Check.is("13 at first ahead", 0, () -> t.step(0, 0, false, 0, 2));
        Check.is("13 far", 12, () -> t.step(0, 0, false, 2, 0));
        Check.is("13 high", 27, () -> t.step(0, 0, false, 2, 1));
        Check.is("13 wet", 25, () -> t.step(0, 0, true, 2, 1));
        Check.is("13 the last", 16, () -> t.flight(0, 0, false, 1));
        Check.is("13 high at the last", 0, () -> t.step(0, 0, false, 16, 1));
        Check.none("13 behind the last", () -> t.step(0, 0, false, 17, 0));
        Check.none("13 below 0", () -> t.step(0, 0, false, -1, 0));
        Check.is("13 the 200th", 600, () -> new FoldTower().step(0, 2, false, 200, 0));
        Check.none("13 the 201st", () -> t.step(0, 3, false, 201, 0));
        Check.none("13 what 3 ahead of all", () -> t.step(10, 0, false, 0, 3));
        Check.none("13 what -1", () -> t.step(0, 0, false, 0, -1));
        Check.illegal("13 minute", () -> t.step(10, 0, false, -1, 0));
        Check.illegal("13 minute -1", () -> t.step(-1, 0, false, 0, 0));
        Check.illegal("13 trim ahead of steps", () -> t.step(0, 4, false, 999, 0));
        Check.illegal("13 trim -4", () -> t.step(0, -4, false, 0, 0));
    }

    private static void foundIs(String what, FoldTower t, int trim, int... row) {
        Check.is(what + ": how many", row.length, () -> t.found(-1));
        Check.is(what + ": trim", trim, () -> t.found(-2));
        for (int i = 0; i < row.length; i++) {
            int k = i;
            Check.is(what + ": " + k, row[k], () -> t.found(k));
        }
    }

    private static void best() {
        FoldTower t = new FoldTower();
        Check.is("14 farthest without a fold", 600, () -> t.best(0, 0, 0));
        foundIs("14 farthest without a fold", t, 2);
        // By nose 1 NOSINESS 6: 6 less 1, 200 steps.
        Check.is("14 farthest by one", 1000, () -> t.best(0, 1, 0));
        foundIs("14 farthest by one", t, 1, 4);
        Check.is("14 longest, the least trim", 200, () -> t.best(1, 4, 0));
        foundIs("14 longest, fewest folds", t, 2);
        FoldTower known = Check.schooled("known nose 2;known left 2;known nose 1;");
        // By nose 2, too, NOSINESS is 6: 40 by 9, by 24, by 3; it comes first.
        Check.is("14 the first of like ones", 1000, () -> known.best(0, 1, 0));
        foundIs("14 the first of like ones", known, 1, 0);
        FoldTower window = Check.schooled("window 30 20 20;");
        // NOSINESS 6: 5 steps of 6 are 25 high; 5: 6 of 5 by 2 are 18; by trim -1: 8 of 4 by 3 are 6.
        Check.is("14 none through", -10000, () -> window.best(2, 0, 0));
        Check.none("14 none is kept", () -> window.found(-1));
        Check.is("14 kept", 600, () -> window.best(0, 0, 0));
        Check.is("14 none through again", -10000, () -> window.best(2, 0, 9));
        foundIs("14 what is kept stays", window, 2);
        FoldTower low = Check.schooled("window 30 1 29;");
        Check.is("14 through, farthest", 120, () -> low.best(2, 0, 0));
        foundIs("14 through, farthest", low, 1);
        Check.none("14 what 3 ahead of all", () -> t.best(3, 5, 10));
        Check.none("14 what -1", () -> t.best(-1, 0, 0));
        Check.illegal("14 L 5", () -> t.best(0, 5, 0));
        Check.illegal("14 L -1", () -> t.best(0, -1, 0));
        Check.illegal("14 minute 10", () -> t.best(0, 0, 10));
        Check.illegal("14 minute -1", () -> t.best(0, 0, -1));
        FoldTower folded = new FoldTower();
        folded.fold(0, 2);
        Check.is("14 from the plain sheet", 600, () -> folded.best(0, 0, 0));
        Check.is("14 what is folded stays", 1, () -> folded.count(4));
    }

    private static void bestSpent() {
        // 4998 rows of 0 to 4 can be here, and 5027 there.
        FoldTower just = Check.schooled("sheet 8 7;known left 1;known right 1;known left 2;known left 3;known left 4;"
                + "known nose 1;known tail 1;known nose 2;known nose 3;known tail 3;");
        String text = "sheet 8 8;known left 1;known right 1;known left 2;known right 2;known nose 1;"
                + "known nose 2;known tail 2;known nose 3;known tail 3;";
        FoldTower spent = Check.schooled(text);
        Check.same("14 not spent", false, Check.told(() -> just.best(0, 4, 0)).equals("-20000"));
        Check.same("17 not spent", false, Check.told(() -> just.rows(4, true)).equals("-2"));
        Check.is("14 kept by 3", 3, () -> {
            spent.fold(0, 1);
            spent.fold(2, 1);
            spent.fold(1, 2);
            spent.rows(3, false);
            return spent.found(-1);
        });
        for (int what = 0; what < 3; what++) {
            int w = what;
            Check.is("14 spent " + w, -20000, () -> spent.best(w, 4, 0));
        }
        Check.is("17 spent", -2, () -> spent.rows(4, true));
        Check.is("17 spent, too", -2, () -> spent.rows(4, false));
        foundIs("14 spent: what is kept stays", spent, 0, 0, 4, 3);
        FoldTower closed = Check.schooled(text.replace("sheet 8 8;", "sheet 8 8;tower 1;window 200 200 200;"));
        Check.is("14 spent ahead of none through", -20000, () -> closed.best(2, 4, 0));
    }

    private static void found() {
        FoldTower t = new FoldTower();
        for (int i = -3; i < 5; i++) {
            int k = i;
            Check.none("15 none is kept " + k, () -> t.found(k));
        }
        t.best(0, 1, 0);
        foundIs("15 nose 1", t, 1, 4);
        Check.none("15 none at 1", () -> t.found(1));
        Check.none("15 none at -3", () -> t.found(-3));
        Check.none("15 none at 4", () -> t.found(4));
        t.fold(0, 1);
        t.fold(0, 1);
        t.rows(2, false);
        foundIs("15 by rows", t, 0, 0, 0);
    }

    private static void mean() {
        FoldTower t = new FoldTower();
        Check.is("16 upper", 75, () -> t.mean(0, 0));
        Check.is("16 lower", 1, () -> t.mean(0, 1));
        FoldTower odds = Check.schooled("tower 2;wind 0 1 0 3;wind 1 0 0 2;wind 2 0 0 0;wind 3 0 0 0;wind 4 0 0 0;"
                + "wind 5 0 0 0;wind 6 0 0 0;wind 7 0 0 0;wind 8 0 0 0;wind 9 0 0 0;");
        // 6 by 3 and 5 by 2.
        Check.is("16 by weight, upper", 28, () -> odds.mean(0, 0));
        Check.is("16 by weight, lower", 5, () -> odds.mean(0, 1));
        FoldTower one = Check.schooled("wind 0 0 0 0;wind 1 0 0 0;wind 2 0 0 0;wind 3 0 0 0;wind 4 0 0 0;"
                + "wind 5 0 0 0;wind 6 0 0 0;wind 7 0 0 0;wind 8 0 0 0;");
        Check.is("16 one weight of 1, upper", 75, () -> one.mean(0, 0));
        Check.is("16 one weight of 1, lower", 1, () -> one.mean(0, 1));
        StringBuilder none = new StringBuilder();
        for (int m = 0; m < 10; m++) {
            none.append("wind ").append(m).append(" 1 0 0;");
        }
        FoldTower all0 = Check.schooled(none.toString());
        Check.is("16 all are 0, upper", 0, () -> all0.mean(0, 0));
        Check.is("16 all are 0, lower", 1, () -> all0.mean(0, 1));
        FoldTower still = Check.schooled("table 5 0 2;");
        Check.is("16 no far, upper", 0, () -> still.mean(0, 0));
        Check.is("16 no far, lower", 1, () -> still.mean(0, 1));
        FoldTower back = Check.schooled("tower 5;wind 2 5 0;");
        back.fold(0, 1);
        // 3 steps: ahead, left, back; 5 more back in minute 0, 5 more ahead in minute 2.
        Check.is("16 even, upper", 0, () -> back.mean(0, 0));
        FoldTower below = Check.schooled("tower 5;wind 2 5 0;wind 0 0 0 2;");
        below.fold(0, 1);
        Check.is("16 below 0, upper", -5, () -> below.mean(0, 0));
        Check.is("16 below 0, lower", 11, () -> below.mean(0, 1));
        Check.none("16 what 2 ahead of all", () -> t.mean(4, 2));
        Check.none("16 what -1", () -> t.mean(0, -1));
        Check.illegal("16 trim 4", () -> t.mean(4, 0));
        Check.illegal("16 trim -4", () -> t.mean(-4, 1));
    }

    private static void rows() {
        FoldTower t = new FoldTower();
        Check.is("17 plain", 1, () -> t.rows(4, false));
        foundIs("17 plain", t, 0);
        t.fold(0, 2);
        // By half it is all the same which half is turned.
        Check.is("17 by left 2, right 2", 2, () -> t.rows(1, false));
        foundIs("17 by left 2, right 2", t, 0, 1);
        // Left 1 and right 1, in either order, make two columns of 12, too.
        Check.is("17 alike", Integer.parseInt(Check.told(() -> alikeByTwo())), () -> t.rows(2, true));
        foundIs("17 alike, the first", t, 0, 1);
        t.undo();
        t.fold(1, 2);
        Check.is("17 by right 2", 2, () -> t.rows(1, false));
        foundIs("17 the same creases, the first", t, 0, 1);
        t.undo();
        t.fold(0, 1);
        t.fold(0, 1);
        Check.is("17 creases by two", 1, () -> t.rows(2, false));
        foundIs("17 creases by two", t, 0, 0, 0);
        t.undo();
        t.undo();
        t.fold(0, 1);
        t.fold(3, 1);
        Check.is("17 in another order other creases", 1, () -> t.rows(2, false));
        foundIs("17 in order", t, 0, 0, 6);
        Check.is("17 alike in either order", 2, () -> t.rows(2, true));
        Check.is("17 none by one", 0, () -> t.rows(1, true));
        foundIs("17 what is kept stays", t, 0, 0, 6);
        FoldTower other = new FoldTower();
        other.fold(0, 2);
        other.fold(0, 1);
        Check.is("17 all of one column", 0, () -> other.rows(0, true));
        Check.none("17 none is kept", () -> other.found(-1));
        Check.illegal("17 L -1", () -> t.rows(-1, false));
        Check.illegal("17 L 5", () -> t.rows(5, true));
    }

    private static int alikeByTwo() {
        int alike = 2;
        for (int row = 0; row < 64; row++) {
            FoldTower t = new FoldTower();
            int a = row / 8;
            int b = row % 8;
            boolean two = t.fold(a / 2, 1 + a % 2) == 1 && t.fold(b / 2, 1 + b % 2) == 2;
            boolean halved = two && t.count(2) == 2 && t.count(3) == 6 && t.layer(0, 0, -1) == 2;
            alike += halved && t.layer(1, 0, -1) == 2 ? 1 : 0;
        }
        return alike;
    }

    private static void evening() {
        FoldTower t = new FoldTower();
        Check.is("18 one", 600, () -> t.evening(1 << 9));
        // 600, 400, 120, 75.
        Check.is("18 four", 1195, () -> t.evening(0b1000011100));
        Check.is("18 trims by minutes", 0, () -> t.trim(2));
        Check.is("18 trims by minutes, second", 1, () -> t.trim(3));
        Check.is("18 trims by minutes, third", 2, () -> t.trim(4));
        Check.is("18 trims by minutes, last", 3, () -> t.trim(9));
        // And 10 by 4, 8 by 3 and 6 by 2 by trims of -1, -2, -3.
        Check.is("18 seven", 1195 + 40 + 24 + 12, () -> t.evening(127));
        for (int m = 0; m < 7; m++) {
            int minute = m;
            Check.is("18 seven, " + m, m - 3, () -> t.trim(minute));
        }
        Check.illegal("18 none", () -> t.evening(0));
        Check.illegal("18 eight", () -> t.evening(255));
        Check.illegal("18 bit 10", () -> t.evening(1024));
        Check.illegal("18 bit 31", () -> t.evening(Integer.MIN_VALUE | 1));
        Check.is("18 the latest stays", 3, () -> t.trim(6));
        FoldTower even = Check.schooled("table 5 0 1;");
        Check.is("18 nothing far", 0, () -> even.evening(3));
        Check.is("18 the least first", -3, () -> even.trim(0));
        Check.is("18 the next second", -2, () -> even.trim(1));
        FoldTower windy = Check.schooled("tower 10;wind 1 5 0;");
        windy.fold(0, 1);
        Check.same("18 what is folded now", Check.told(() -> mostOfTwo(windy)), Check.told(() -> windy.evening(3)));
    }

    private static int mostOfTwo(FoldTower t) {
        int most = Integer.MIN_VALUE;
        for (int a = -3; a <= 3; a++) {
            for (int b = -3; b <= 3; b++) {
                if (a != b) {
                    most = Math.max(most, t.flight(0, a, false, 0) + t.flight(1, b, false, 0));
                }
            }
        }
        return most;
    }

    private static void trim() {
        FoldTower t = new FoldTower();
        Check.none("19 none", () -> t.trim(0));
        t.evening(2);
        Check.is("19 of the evening", 2, () -> t.trim(1));
        Check.none("19 not of it", () -> t.trim(0));
        Check.none("19 minute -1", () -> t.trim(-1));
        Check.none("19 minute 10", () -> t.trim(10));
        t.evening(1);
        Check.none("19 the latest alone", () -> t.trim(1));
        Check.school(t, "x");
        Check.is("19 a fault forgets nothing", 2, () -> t.trim(0));
        Check.school(t, "");
        Check.none("19 a school forgets", () -> t.trim(0));
    }

    private static void teach() {
        FoldTower t = Check.schooled("known left 1;known nose 1;known tail 2;");
        Check.is("20 one", 1, () -> t.teach(2, -1, -1, -1));
        Check.is("20 four", 2, () -> t.teach(0, 1, 2, 0));
        Check.is("20 no such", -1, () -> t.teach(3, -1, -1, -1));
        Check.is("20 no such last", -1, () -> t.teach(0, 1, 2, 3));
        Check.is("20 below", -1, () -> t.teach(0, -2, -1, -1));
        Check.is("20 nothing", -1, () -> t.teach(-1, -1, -1, -1));
        Check.is("20 first is none", -1, () -> t.teach(-1, 0, -1, -1));
        Check.is("20 one behind none", -1, () -> t.teach(0, -1, -1, 0));
        Check.is("20 STATUS", 6, () -> t.count(13));
        for (int i = 3; i <= 12; i++) {
            Check.is("20 like ones", i, () -> t.teach(0, 1, -1, -1));
        }
        Check.is("20 the 13th", -1, () -> t.teach(0, -1, -1, -1));
        Check.is("20 STATUS of the 13th", 7, () -> t.count(13));
        Check.is("20 still 12", 12, () -> t.count(9));
    }

    private static void taughtAre(String what, FoldTower t, int... order) {
        Check.is(what + ": how many", order.length, () -> t.taught(-1));
        for (int i = 0; i < order.length; i++) {
            int k = i;
            Check.is(what + ": " + k, order[k], () -> t.taught(k));
        }
        Check.none(what + ": none more", () -> t.taught(order.length));
        Check.none(what + ": -2", () -> t.taught(-2));
    }

    private static void taught() {
        FoldTower t = new FoldTower();
        taughtAre("21 none", t);
        t.teach(1, 2, 3, -1);
        t.teach(2, 3, -1, -1);
        t.teach(0, 1, 2, 3);
        taughtAre("21 nothing to begin with", t);
        t.teach(1, -1, -1, -1);
        taughtAre("21 a single one", t, 3);
        t.teach(1, 2, -1, -1);
        // 1; then 1 2; then 1 2 3; then 2 3.
        taughtAre("21 the least each time", t, 3, 4, 0, 1);
        t.teach(2, 1, -1, -1);
        taughtAre("21 not one more in front, not another order", t, 3, 4, 0, 1);
        t.teach(1, 3, -1, -1);
        taughtAre("21 the middle left out", t, 3, 4, 0, 1, 6);
        t.teach(1, 2, -1, -1);
        taughtAre("21 a like one", t, 3, 4, 0, 1, 6, 7);
        FoldTower two = new FoldTower();
        two.teach(0, -1, -1, -1);
        two.teach(0, 1, 2, -1);
        taughtAre("21 not two more", two, 0);
        FoldTower swapped = new FoldTower();
        swapped.teach(0, -1, -1, -1);
        swapped.teach(1, -1, -1, -1);
        swapped.teach(0, 2, -1, -1);
        swapped.teach(2, 1, -1, -1);
        taughtAre("21 two shared are not enough", swapped, 0, 1, 2);
    }

    private static void imageAndRestore() {
        FoldTower t = new FoldTower();
        Check.is("23 there is none", 0, () -> t.restore() ? 1 : 0);
        t.fold(0, 1);
        t.fold(0, 3);
        t.teach(0, -1, -1, -1);
        t.image();
        t.fold(2, 1);
        t.fold(0, 3);
        t.teach(1, -1, -1, -1);
        t.teach(-1, -1, -1, -1);
        Check.row(t, "x");
        t.best(0, 1, 0);
        t.evening(1);
        t.feed(0, 0, 0, 0, 0);
        Check.is("23 as the image", 1, () -> t.restore() ? 1 : 0);
        int[] due = {4, 6, 3, 6, 1, 6, 5, -6, 8, 1, 20, 0, 1, 0};
        for (int what = 0; what < due.length; what++) {
            int w = what;
            Check.is("23 count " + w, due[w], () -> t.count(w));
        }
        Check.is("23 rows", 1, () -> t.taught(-1));
        Check.is("23 the BEST stays", 1, () -> t.found(-1));
        Check.same("23 AN EVENING stays", false, Check.told(() -> t.trim(0)).equals("none"));
        Check.is("23 the fault stays", 0, t::fault);
        Check.is("23 creases", 2 - 1, () -> t.crease(0, 0, false));
        t.undo();
        Check.is("23 once more", 1, () -> t.restore() ? 1 : 0);
        Check.is("23 folded once more", 1, () -> t.count(4));
        t.undo();
        t.image();
        t.fold(3, 1);
        t.restore();
        Check.is("22 in place of another one", 0, () -> t.count(4));
        Check.school(t, "");
        Check.is("23 gone with a school", 0, () -> t.restore() ? 1 : 0);
    }
}
