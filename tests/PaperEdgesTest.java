/** The edges of "Terms 2", of what is FOLDED: each test bears its term and its sentence. */
public final class PaperEdgesTest {
    private static final String[] SIDES = {"left", "right", "nose", "tail"};
    private static final int LEFT = 0;
    private static final int RIGHT = 1;
    private static final int NOSE = 2;
    private static final int TAIL = 3;

    private PaperEdgesTest() {
    }

    public static void main(String[] args) {
        plain();
        foldByOneAndTwo();
        turnedOrder();
        asItIsNow();
        half();
        numberedAgain();
        layers();
        creaseKinds();
        creasePlaces();
        creaseStays();
        rowOneByOne();
        rowWithFault();
        undone();
        nosiness();
        nosinessByLength();
        wings();
        Check.end();
    }

    private static FoldTower sheet(int w, int h) {
        return Check.schooled("sheet " + w + " " + h + ";");
    }

    /** Folds told as side and number, side and number .. that all can be. */
    private static FoldTower folded(int w, int h, int... folds) {
        FoldTower t = sheet(w, h);
        for (int i = 0; i < folds.length; i += 2) {
            int k = i;
            Check.is("fold " + SIDES[folds[i]] + " " + folds[i + 1], i / 2 + 1, () -> t.fold(folds[k], folds[k + 1]));
        }
        return t;
    }

    /** All layers: those of a place the lowest first, with a comma; places with a blank, rows with a stroke. */
    private static String layersOf(FoldTower t) {
        StringBuilder s = new StringBuilder();
        for (int y = 0; y < t.count(3); y++) {
            for (int x = 0; x < t.count(2); x++) {
                s.append(x > 0 ? " " : y > 0 ? "/" : "");
                for (int i = 0; i < t.layer(x, y, -1); i++) {
                    s.append(i > 0 ? "," : "").append(t.layer(x, y, i));
                }
            }
        }
        return s.toString();
    }

    /** All creases: those beside as numbers with blanks, rows with strokes; then those below. */
    private static String creasesOf(FoldTower t) {
        StringBuilder s = new StringBuilder();
        for (int y = 0; y < t.count(1); y++) {
            for (int x = 0; x + 1 < t.count(0); x++) {
                s.append(x > 0 ? " " : y > 0 ? "/" : "").append(t.crease(x, y, false));
            }
        }
        s.append("|");
        for (int y = 0; y + 1 < t.count(1); y++) {
            for (int x = 0; x < t.count(0); x++) {
                s.append(x > 0 ? " " : y > 0 ? "/" : "").append(t.crease(x, y, true));
            }
        }
        return s.toString();
    }

    /** "at first each CELL lies alone, its front up". */
    private static void plain() {
        Check.same("FOLDED at first", "0 1 2/3 4 5", layersOf(sheet(3, 2)));
        Check.same("FOLDED at first, no CREASE", "0 0/0 0|0 0 0", creasesOf(sheet(3, 2)));
        Check.same("FOLDED at first, the least SHEET", "0", layersOf(sheet(1, 1)));
        Check.same("FOLDED at first, no CREASE of the least SHEET", "|", creasesOf(sheet(1, 1)));
    }

    /** "the n leftmost columns (rightmost; n rows at the nose; at the tail) are turned over onto the rest". */
    private static void foldByOneAndTwo() {
        Check.same("A FOLD left 1", "1,100 2/4,103 5", layersOf(folded(3, 2, LEFT, 1)));
        Check.same("A FOLD right 1", "0 1,102/3 4,105", layersOf(folded(3, 2, RIGHT, 1)));
        Check.same("A FOLD nose 1", "2,100 3,101/4 5", layersOf(folded(2, 3, NOSE, 1)));
        Check.same("A FOLD tail 1", "0 1/2,104 3,105", layersOf(folded(2, 3, TAIL, 1)));
        Check.same("A FOLD left 2", "2,101 3,100 4", layersOf(folded(5, 1, LEFT, 2)));
        Check.same("A FOLD right 2", "0 1,104 2,103", layersOf(folded(5, 1, RIGHT, 2)));
        Check.same("A FOLD nose 2", "2,101/3,100/4", layersOf(folded(1, 5, NOSE, 2)));
        Check.same("A FOLD tail 2", "0/1,104/2,103", layersOf(folded(1, 5, TAIL, 2)));
        Check.same("A FOLD left by half", "4,103 5,102 6,101 7,100", layersOf(folded(8, 1, LEFT, 4)));
        Check.same("A FOLD right by half", "0,107 1,106 2,105 3,104", layersOf(folded(8, 1, RIGHT, 4)));
        Check.same("A FOLD nose by half", "4,103/5,102/6,101/7,100", layersOf(folded(1, 8, NOSE, 4)));
        Check.same("A FOLD tail by half", "0,107/1,106/2,105/3,104", layersOf(folded(1, 8, TAIL, 4)));
    }

    /** "above all that lies there, in turned order, each turned". */
    private static void turnedOrder() {
        String text = "A FOLD's turned order: ";
        Check.same(text + "two layers onto one", "2,0,101 3", layersOf(folded(4, 1, LEFT, 1, LEFT, 1)));
        Check.same(text + "two layers onto one, from the right", "0 1,3,102",
                layersOf(folded(4, 1, RIGHT, 1, RIGHT, 1)));
        Check.same(text + "two onto two", "2,103,0,101", layersOf(folded(4, 1, LEFT, 1, RIGHT, 1, LEFT, 1)));
        Check.same(text + "two onto two, from the right", "1,100,3,102",
                layersOf(folded(4, 1, LEFT, 1, RIGHT, 1, RIGHT, 1)));
        Check.same(text + "one onto two", "2,101 3,104,100", layersOf(folded(5, 1, RIGHT, 1, LEFT, 2)));
        Check.same(text + "four onto one", "4,2,0,101,103",
                layersOf(folded(5, 1, LEFT, 1, LEFT, 1, LEFT, 1, LEFT, 1)));
        Check.same(text + "lengthwise, then across", "3,101,0,102", layersOf(folded(2, 2, NOSE, 1, LEFT, 1)));
        Check.same(text + "across, then lengthwise", "3,102,0,101", layersOf(folded(2, 2, LEFT, 1, NOSE, 1)));
        Check.same(text + "from the tail, then from the right", "0,102,3,101",
                layersOf(folded(2, 2, TAIL, 1, RIGHT, 1)));
    }

    /** "of what lies there now, as wide (as long) as it is now". */
    private static void asItIsNow() {
        for (int side = LEFT; side <= TAIL; side++) {
            int s = side;
            FoldTower t = side < NOSE ? sheet(8, 1) : sheet(1, 8);
            int[] now = {4, 2, 1};
            for (int i = 0; i < 3; i++) {
                int n = now[i];
                int done = i + 1;
                Check.is("A FOLD by more than half of what is now, " + SIDES[side], -1, () -> t.fold(s, n + 1));
                Check.is("A FOLD by half of what is now, " + SIDES[side], done, () -> t.fold(s, n));
                Check.is("A FOLD by half leaves half, " + SIDES[side], n, () -> t.count(s < NOSE ? 2 : 3));
            }
            Check.is("A FOLD of what is 1 now, " + SIDES[side], -1, () -> t.fold(s, 1));
            Check.is("W and H stay, " + SIDES[side], 8, () -> t.count(0) * t.count(1));
        }
    }

    /** "n is no more than half of the width (length)": all widths, from far below 0 to far above. */
    private static void half() {
        int[] numbers = {Integer.MIN_VALUE, -4, -1, 0, 1, 2, 3, 4, 5, 8, 256 + 1, Integer.MAX_VALUE};
        for (int across = 1; across <= 8; across++) {
            for (int side = LEFT; side <= TAIL; side++) {
                for (int n : numbers) {
                    FoldTower t = side < NOSE ? sheet(across, 9 - across) : sheet(9 - across, across);
                    int s = side;
                    boolean can = n >= 1 && n <= 4 && 2 * n <= across;
                    String name = "A FOLD " + SIDES[side] + " by " + n + " of " + across;
                    Check.is(name, can ? 1 : -1, () -> t.fold(s, n));
                    Check.is(name + ", STATUS", can ? 0 : 1, () -> t.count(12));
                    Check.is(name + ", what is left", can ? across - n : across, () -> t.count(s < NOSE ? 2 : 3));
                    Check.is(name + ", the other way", 9 - across, () -> t.count(s < NOSE ? 3 : 2));
                }
            }
        }
    }

    /** "What is left is numbered from 0 again." */
    private static void numberedAgain() {
        for (int side = LEFT; side <= TAIL; side++) {
            FoldTower t = side < NOSE ? folded(8, 1, side, 2) : folded(1, 8, side, 2);
            int dx = side < NOSE ? 1 : 0;
            int dy = 1 - dx;
            String name = "What is left of 8 by " + SIDES[side] + " 2";
            Check.is(name + ", 0", side % 2 == 0 ? 2 : 0, () -> t.layer(0, 0, 0));
            Check.is(name + ", 5", side % 2 == 0 ? 7 : 5, () -> t.layer(5 * dx, 5 * dy, 0));
            Check.none(name + ", 6", () -> t.layer(6 * dx, 6 * dy, -1));
            Check.none(name + ", -1", () -> t.layer(-dx, -dy, -1));
        }
    }

    /** "LAYERS of a place: CELLS that lie there, the lowest first": one, and all 64. */
    private static void layers() {
        FoldTower t = sheet(8, 8);
        Check.is("LAYERS of a plain place", 1, () -> t.layer(7, 7, -1));
        Check.is("LAYERS of a plain place, the lowest", 63, () -> t.layer(7, 7, 0));
        Check.none("LAYERS of a plain place, no other", () -> t.layer(7, 7, 1));
        Check.is("LAYERS, all FOLDS", 14, () -> Check.row(t, "left1;".repeat(7) + "nose1;".repeat(7)));
        Check.is("LAYERS of all CELLS", 64, () -> t.layer(0, 0, -1));
        Check.is("LAYERS of all CELLS, the lowest", 63, () -> t.layer(0, 0, 0));
        // What was turned last lies above all: row 6, in which the cell of column 7 lay lowest.
        Check.is("LAYERS of all CELLS, the highest", 55 + 100, () -> t.layer(0, 0, 63));
        Check.none("LAYERS of all CELLS, no other", () -> t.layer(0, 0, 64));
        boolean[] seen = new boolean[64];
        for (int i = 0; i < 64; i++) {
            seen[t.layer(0, 0, i) % 100] = true;
        }
        for (int cell = 0; cell < 64; cell++) {
            Check.same("LAYERS of all CELLS have " + cell, true, seen[cell]);
        }
    }

    /** "VALLEY (1), if the front of both is up ahead of it, else MOUNTAIN (2)". */
    private static void creaseKinds() {
        Check.same("A CREASE, VALLEY by left 1", "1 0/1 0|0 0 0", creasesOf(folded(3, 2, LEFT, 1)));
        Check.same("A CREASE, VALLEY by right 1", "0 1/0 1|0 0 0", creasesOf(folded(3, 2, RIGHT, 1)));
        Check.same("A CREASE, VALLEY by nose 1", "0/0/0|1 1/0 0", creasesOf(folded(2, 3, NOSE, 1)));
        Check.same("A CREASE, VALLEY by tail 1", "0/0/0|0 0/1 1", creasesOf(folded(2, 3, TAIL, 1)));
        Check.same("A CREASE, MOUNTAIN lengthwise", "1/1|12 11", creasesOf(folded(2, 2, LEFT, 1, NOSE, 1)));
        Check.same("A CREASE, MOUNTAIN across", "12/11|1 1", creasesOf(folded(2, 2, NOSE, 1, LEFT, 1)));
        Check.same("A CREASE, MOUNTAIN of the upper layer", "11 1 12|", creasesOf(folded(4, 1, RIGHT, 2, LEFT, 1)));
    }

    /** "between two CELLS, side by side on the SHEET, of which one is turned over and one not". */
    private static void creasePlaces() {
        Check.same("A CREASE not between two that are turned", "0 1 0|", creasesOf(folded(4, 1, LEFT, 2)));
        // By the second fold cell 0 lies beside 2, and is turned away from it; on the sheet they aren't side by side.
        Check.same("A CREASE not where they only lie side by side", "1 11|", creasesOf(folded(3, 1, LEFT, 1, LEFT, 1)));
        Check.same("A CREASE in each layer that is turned", "12 1 11 0|", creasesOf(folded(5, 1, LEFT, 2, LEFT, 1)));
        Check.is("A CREASE, how many", 3, () -> folded(5, 1, LEFT, 2, LEFT, 1).count(5));
        FoldTower most = folded(8, 8, LEFT, 4, LEFT, 2, LEFT, 1, NOSE, 4, NOSE, 2, NOSE, 1);
        Check.is("A CREASE between all CELLS", 7 * 8 + 8 * 7, () -> most.count(5));
    }

    /** "It stays.": what a crease is, and by which fold it came, whatever is folded then. */
    private static void creaseStays() {
        FoldTower t = folded(5, 1, LEFT, 2, LEFT, 1, LEFT, 1);
        Check.same("A CREASE stays", "12 1 11 21|", creasesOf(t));
        t.fold(LEFT, 1);
        Check.same("A CREASE stays where none can be", "12 1 11 21|", creasesOf(t));
        FoldTower most = sheet(8, 8);
        Check.is("A CREASE by the 14th", 14, () -> Check.row(most, "left1;".repeat(7) + "nose1;".repeat(7)));
        Check.is("A CREASE by the first stays", 1, () -> most.crease(0, 7, false));
        Check.is("A CREASE by the 7th stays", 61, () -> most.crease(6, 0, false));
        Check.is("A CREASE by the 14th, VALLEY", 131, () -> most.crease(7, 6, true));
        Check.is("A CREASE by the 14th, MOUNTAIN", 132, () -> most.crease(6, 6, true));
    }

    /** "They are done one by one, till one can't be." */
    private static void rowOneByOne() {
        FoldTower t = new FoldTower();
        Check.is("A ROW of none", 0, () -> Check.row(t, ""));
        Check.is("A ROW of blanks", 0, () -> Check.row(t, " \n "));
        Check.is("A ROW of none, STATUS", 0, () -> t.count(11) + t.count(12));
        Check.is("A ROW till the second can't be", 1, () -> Check.row(t, "left 2;left 2;nose 1;left 1;"));
        Check.is("A ROW till one can't be, the next is not done", 6, () -> t.count(3));
        Check.is("A ROW till one can't be, STATUS 1", 1, () -> t.count(12));
        Check.is("A ROW of which the first can't be", 0, () -> Check.row(t, "left 2;nose 1;nose 1;"));
        Check.is("A ROW of which the first can't be, STATUS 1", 2, () -> t.count(12));
        Check.is("A ROW on what is folded now", 3, () -> Check.row(t, "left 1;tail 3;tail 1;"));
        Check.is("A ROW on what is folded now, FOLDS", 4, () -> t.count(4));
        Check.is("A ROW of which the last can't be", 1, () -> Check.row(t, "nose 1;nose 1;"));
        Check.is("A ROW till one can't be, no FAULT", -1, t::fault);
        Check.is("A ROW till one can't be, STATUS 0", 0, () -> t.count(11));
    }

    /** "with a FAULT (1, 2) none is done". */
    private static void rowWithFault() {
        String[] texts = {"left 1;nose 1", "left 1;nose 1;;", "left 1;nose 5;", "left 1;nose 0;", "left 1;nose;",
            "left 1;.", "left 4;nose 5;"};
        int[] kinds = {1, 1, 2, 2, 1, 1, 2};
        int[] places = {13, 14, 12, 12, 11, 7, 12};
        for (int i = 0; i < texts.length; i++) {
            FoldTower t = folded(4, 6, TAIL, 1);
            String text = texts[i];
            int due = -1 - kinds[i];
            Check.is("A ROW with a FAULT: " + text, due, () -> Check.row(t, text));
            Check.is("A ROW with a FAULT, its place: " + text, places[i], t::fault);
            Check.is("A ROW with a FAULT, none is done: " + text, 1, () -> t.count(4));
            Check.is("A ROW with a FAULT, STATUS 0: " + text, 1, () -> t.count(11));
            Check.is("A ROW with a FAULT, STATUS 1: " + text, 0, () -> t.count(12));
        }
    }

    /** "FOLDS are UNDONE, the last ones first." */
    private static void undone() {
        FoldTower t = sheet(5, 3);
        int[] folds = {LEFT, 2, TAIL, 1, RIGHT, 1, NOSE, 1};
        String[] lay = new String[4];
        String[] creased = new String[4];
        for (int i = 0; i < 4; i++) {
            lay[i] = layersOf(t);
            creased[i] = creasesOf(t);
            t.fold(folds[2 * i], folds[2 * i + 1]);
        }
        for (int i = 3; i >= 0; i--) {
            int left = i;
            Check.is("UNDONE, how many are left", left, t::undo);
            Check.same("UNDONE, how it lies", lay[i], layersOf(t));
            Check.same("UNDONE, its creases", creased[i], creasesOf(t));
        }
        Check.is("UNDONE, none is left", -1, t::undo);
        Check.is("UNDONE by a fold again", 1, () -> t.fold(NOSE, 1));
        Check.is("UNDONE, the new crease is of the first fold", 1, () -> t.crease(4, 0, true));
    }

    /** "NOSINESS: 9 less (9 by the sum .. by how many CELLS .. by the length less 1, cut down)". */
    private static void nosiness() {
        nosinessIs(5, 1, 2);
        nosinessIs(5, 8, 2);
        nosinessIs(5, 1, 8);
        nosinessIs(5, 8, 8);
        // 9 by 1, by 3; then by 2, by 3: nothing is to be cut down.
        nosinessIs(6, 1, 3, NOSE, 1);
        nosinessIs(3, 1, 3, TAIL, 1);
        // 9 by 3, by 8; then by 5, by 8.
        nosinessIs(6, 1, 4, NOSE, 1);
        nosinessIs(4, 1, 4, TAIL, 1);
        nosinessIs(6, 8, 4, NOSE, 1);
        // 7 and 1; 1 and 7: the most and the least that there are, but for 0.
        nosinessIs(8, 1, 8, NOSE, 1, NOSE, 1, NOSE, 1, NOSE, 1, NOSE, 1, NOSE, 1);
        nosinessIs(2, 1, 8, TAIL, 1, TAIL, 1, TAIL, 1, TAIL, 1, TAIL, 1, TAIL, 1);
        // Across it stays.
        nosinessIs(8, 2, 8, NOSE, 1, NOSE, 1, NOSE, 1, NOSE, 1, NOSE, 1, NOSE, 1, LEFT, 1);
    }

    private static void nosinessIs(int due, int w, int h, int... folds) {
        Check.is("NOSINESS of " + w + " by " + h + ", " + folds.length / 2 + " folds", due,
                () -> folded(w, h, folds).count(6));
    }

    /** "0, if the length is 1". */
    private static void nosinessByLength() {
        nosinessIs(0, 1, 1);
        nosinessIs(0, 8, 1);
        nosinessIs(0, 1, 2, NOSE, 1);
        nosinessIs(0, 8, 2, TAIL, 1);
        nosinessIs(0, 3, 4, NOSE, 2, NOSE, 1);
        nosinessIs(5, 3, 4, NOSE, 2);
    }

    /** "WINGS: .. to the right of the middle (not of a middle column) less that to the left". */
    private static void wings() {
        wingsAre(0, 1, 8);
        wingsAre(0, 2, 8);
        wingsAre(0, 8, 8);
        wingsAre(0, 7, 1);
        wingsAre(-1, 3, 1, LEFT, 1);
        wingsAre(1, 3, 1, RIGHT, 1);
        // 2, 1, 1; then 1, 2, 2: the middle column is not of it.
        wingsAre(-1, 4, 1, LEFT, 1);
        wingsAre(1, 5, 1, RIGHT, 2);
        // 2, 1, 1, 1; 3, 1, 1; 2, 1, 2.
        wingsAre(-1, 5, 1, LEFT, 1);
        wingsAre(-2, 5, 1, LEFT, 1, LEFT, 1);
        wingsAre(0, 5, 1, LEFT, 1, RIGHT, 1);
        wingsAre(0, 8, 1, LEFT, 4);
        wingsAre(-8, 3, 8, LEFT, 1);
        wingsAre(8, 3, 8, RIGHT, 1);
        wingsAre(8, 3, 8, RIGHT, 1, NOSE, 4);
        wingsAre(-48, 8, 8, LEFT, 1, LEFT, 1, LEFT, 1, LEFT, 1, LEFT, 1, LEFT, 1);
        wingsAre(48, 8, 8, RIGHT, 1, RIGHT, 1, RIGHT, 1, RIGHT, 1, RIGHT, 1, RIGHT, 1);
        wingsAre(0, 8, 8, RIGHT, 1, RIGHT, 1, RIGHT, 1, RIGHT, 1, RIGHT, 1, RIGHT, 1, RIGHT, 1);
    }

    private static void wingsAre(int due, int w, int h, int... folds) {
        Check.is("WINGS of " + w + " by " + h + ", " + folds.length / 2 + " folds", due,
                () -> folded(w, h, folds).count(7));
    }
}
