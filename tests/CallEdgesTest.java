/** The edges of each call, promise by promise: what it refuses, what stays and what changes behind it. */
public final class CallEdgesTest {
    private static final int LEAST = Integer.MIN_VALUE;
    private static final int MOST = Integer.MAX_VALUE;

    private CallEdgesTest() {
    }

    public static void main(String[] args) {
        newObject();
        the512thCall();
        feed();
        feedBytes();
        schoolOfNoSuchTape();
        schoolWithFault();
        schoolAnew();
        schoolAfterSchool();
        rowOfNoSuchTape();
        rowWithFault();
        rowDone();
        faultOfTheLatest();
        countOfAnother();
        tableOfAnother();
        fold();
        undo();
        layer();
        crease();
        flight();
        step();
        best();
        found();
        mean();
        rows();
        evening();
        trim();
        teach();
        teachTwelve();
        taught();
        image();
        restore();
        restoreOtherFolds();
        refusedLeavesTheImage();
        Check.end();
    }

    /** A sheet of 3 by 2 now, nothing as without; an image of it. */
    private static FoldTower imaged() {
        FoldTower t = Check.schooled("sheet 4 3;table 2 7 3;wind 1 2 -1 5;wind 9 1 1 0;tower 40;window 12 3 33;"
                + "known left 1;known tail 1;known nose 1;");
        Check.row(t, "left 1;tail 1;");
        t.fold(0, 3);
        Check.row(t, " x");
        t.teach(0, -1, -1, -1);
        t.teach(0, 1, -1, -1);
        t.teach(9, -1, -1, -1);
        t.best(0, 1, 0);
        t.evening(0b101);
        t.image();
        return t;
    }

    /** One FOLD and one ROW more than the image has, so 3 by 1 now; a text of 20 bytes on the tape. */
    private static FoldTower full() {
        FoldTower t = imaged();
        afterImage(t);
        return t;
    }

    private static void afterImage(FoldTower t) {
        t.fold(2, 1);
        t.teach(1, 2, -1, -1);
        Check.put(t, "left 1;");
    }

    /** Promise 1: "A SHEET of 4 by 6, all as without." */
    private static void newObject() {
        FoldTower t = new FoldTower();
        Seen before = new Seen(t);
        Check.same("1: so few calls look at all", true, before.calls() < 220);
        Check.is("1: a school that tells nothing", 0, () -> t.school(0));
        Check.same("1: as by a school that tells nothing", "", before.changesTo(new Seen(t)));
        int[] due = {4, 6, 4, 6, 0, 0, 5, 0, 8, 0, 0, 0, 0, 0};
        for (int what = 0; what < 14; what++) {
            int w = what;
            Check.is("1: count " + w, due[w], () -> new FoldTower().count(w));
        }
        FoldTower other = new FoldTower();
        other.fold(0, 1);
        Check.is("1: what one object does another does not see", 0, () -> new FoldTower().count(4));
    }

    /** "An object is used for at most 512 calls": each of them is answered. */
    private static void the512thCall() {
        FoldTower t = new FoldTower();
        for (int i = 0; i < 256; i++) {
            Check.is("512 calls: fold", 1, () -> t.fold(0, 1));
            Check.is("512 calls: undo", 0, t::undo);
        }
        FoldTower refused = new FoldTower();
        for (int i = 1; i < 512; i++) {
            refused.fold(0, 9);
        }
        Check.is("512 calls: the last counts 511", 511, () -> refused.count(12));
    }

    /** Promise 2: "NONE, and none come, if it would have more than 500." */
    private static void feed() {
        FoldTower t = full();
        Seen.changes("2: feed", t, "40", "count 10: 20 -> 40", () -> t.feed(0, 0, 0, 0, 0));
        FoldTower most = full();
        for (int bytes = 40; bytes <= 480; bytes += 20) {
            int due = bytes;
            Check.is("2: feed to " + due, due, () -> most.feed(LEAST, MOST, -1, 0, 1));
        }
        Seen.changes("2: feed to 500", most, "500", "count 10: 480 -> 500", () -> most.feed(1, 2, 3, 4, 5));
        Check.is("2: feed above 500", -1, () -> most.feed(0, 0, 0, 0, 0));
        FoldTower over = new FoldTower();
        Check.put(over, " ".repeat(500));
        Seen.stays("2: feed above 500", over, "-1", () -> over.feed(-1, -1, -1, -1, -1));
        Check.is("2: none came, so all are blanks", 0, () -> over.school(500));
        Check.is("2: feed the empty tape again", 20, () -> over.feed(0, 0, 0, 0, 0));
    }

    /** Promise 2: "Twenty bytes come behind the tape, of each number the highest first". */
    private static void feedBytes() {
        FoldTower t = new FoldTower();
        t.feed(word("shee"), word("t 5 "), word("7;to"), word("wer "), word("123;"));
        t.feed(word("tabl"), word("e 3 "), word("4 5;"), word("    "), word("   ;"));
        Check.is("2: the 40th byte alone can't stand", 1, () -> t.school(40));
        Check.is("2: the 40th byte alone can't stand, its place", 39, t::fault);
        t.feed(word("shee"), word("t 5 "), word("7;to"), word("wer "), word("123;"));
        t.feed(word("tabl"), word("e 3 "), word("4 5;"), word("    "), word("   ;"));
        Check.is("2: the bytes ahead of it", 0, () -> t.school(39));
        Check.is("2: the second number", 5, () -> t.count(0));
        Check.is("2: the third number", 7, () -> t.count(1));
        Check.is("2: the fifth number", 123, () -> t.step(0, 0, false, 0, 1));
        Check.is("2: behind the tape", 4, () -> t.table(3, 0));
        // All 256 bytes come as they are: none but the two blanks counts for nothing.
        for (int b = 0; b < 256; b++) {
            int sign = b;
            FoldTower one = new FoldTower();
            one.feed(0x20202020, 0x20202000 | sign, sign << 24 | 0x0A0A0A, 0x20202020, 0x20202020);
            boolean blank = sign == 32 || sign == 10;
            Check.is("2: the byte " + sign, blank ? 0 : 1, () -> one.school(20));
            Check.is("2: the byte " + sign + ", its place", blank ? -1 : 7, one::fault);
        }
    }

    private static int word(String four) {
        return Check.word(four, 0);
    }

    /** Promise 3: "IllegalArgumentException: the tape has not so many, n below 0 (nothing changes)." */
    private static void schoolOfNoSuchTape() {
        for (int n : new int[] {LEAST, -2, -1, 21, 40, 500, 501, MOST}) {
            FoldTower t = full();
            Seen.stays("3: school " + n + " of 20", t, "illegal", () -> t.school(n));
        }
        FoldTower empty = new FoldTower();
        Seen.stays("3: school 1 of none", empty, "illegal", () -> empty.school(1));
        FoldTower most = new FoldTower();
        Check.put(most, " ".repeat(500));
        Seen.stays("3: school 501 of 500", most, "illegal", () -> most.school(501));
    }

    /** Promise 3: "(it is empty then)", "or the FAULT (all else stays, but STATUS)". */
    private static void schoolWithFault() {
        for (int n = 1; n <= 20; n++) {
            FoldTower t = full();
            int bytes = n;
            Seen.changes("3: school " + n + " with FAULT 1", t, "1",
                    "count 10: 20 -> 0, count 11: 1 -> 2, fault: 1 -> 0", () -> t.school(bytes));
        }
        String[] texts = {"tower 1;tower 201;", "sheet 8 9;", "known left 1;known", "known tail 1;known tail 1;",
            "sheet 3 3;tower 9;x", "tower 0;"};
        int[] kinds = {3, 2, 1, 4, 1, 2};
        int[] places = {8, 8, 18, 24, 18, 6};
        for (int i = 0; i < texts.length; i++) {
            FoldTower t = full();
            t.school(0);
            Check.row(t, "left 1;nose 1;");
            String text = texts[i];
            Check.put(t, text);
            int tape = t.count(10);
            String changes = "count 10: " + tape + " -> 0, count 11: 1 -> 2, fault: -1 -> " + places[i];
            Seen.changes("3: school " + text, t, Integer.toString(kinds[i]), changes, () -> t.school(text.length()));
        }
    }

    /** Promise 3: "all anew, a plain SHEET: 0 (STATUS stays)"; "ROWS to be taught, the BEST, the image are gone". */
    private static void schoolAnew() {
        Seen plain = new Seen(new FoldTower());
        String stays = "count 11: 0 -> 1, count 12: 0 -> 1, count 13: 0 -> 1";
        FoldTower t = full();
        Check.is("3: school of no byte", 0, () -> t.school(0));
        Check.same("3: school of no byte: all as without", stays, plain.changesTo(new Seen(t)));
        Check.is("3: school of no byte: no image", 0, () -> t.restore() ? 1 : 0);
        FoldTower blank = full();
        blank.row(0);
        Check.put(blank, " \n ");
        Check.is("3: school of blanks, of fewer than the tape", 0, () -> blank.school(2));
        Check.same("3: school of blanks: all as without", stays, plain.changesTo(new Seen(blank)));
        FoldTower told = full();
        told.row(0);
        Check.is("3: school of two lines", 0, () -> Check.school(told, "tower 7;known nose 2;"));
        String tower = "flight 9 1 0: 120 -> 28, flight 9 1 1: 30 -> 7, the tower: 30 -> 7";
        Check.same("3: school of two lines: the rest as without", "count 8: 8 -> 1, " + stays + ", " + tower,
                plain.changesTo(new Seen(told)));
        Check.none("3: no EVENING", () -> told.trim(0));
        Check.none("3: no BEST", () -> told.found(-1));
        Check.is("3: no image", 0, () -> told.restore() ? 1 : 0);
    }

    /** Promise 3: "all anew": nothing of the schools ahead of it is left, nor is it told already. */
    private static void schoolAfterSchool() {
        String[] all = {"sheet 3 2;table 0 9 9;table 5 9 9;wind 0 1 2 3;wind 9 3 2 1;tower 7;window 9 8 9;known nose 1;",
            "table 1 9 9;table 9 9 9;wind 0 -1 -2 4;wind 5 3 2 1;tower 9;window 8 7 8;known tail 1;known left 3;"};
        FoldTower t = new FoldTower();
        Seen plain = new Seen(new FoldTower());
        for (int i = 0; i < 4; i++) {
            String text = all[i % 2];
            Check.is("3: school " + i + " of many", 0, () -> Check.school(t, text));
        }
        Check.is("3: the same school twice", 0, () -> Check.school(t, all[1]));
        Check.is("3: the same school twice, with a FAULT between", 1, () -> Check.school(t, all[1] + "x"));
        Check.is("3: the same school thrice", 0, () -> Check.school(t, all[1]));
        Check.is("3: a school of nothing behind many", 0, () -> t.school(0));
        Check.same("3: all as without behind many", "count 11: 0 -> 1", plain.changesTo(new Seen(t)));
        windowAsWithout(t);
        for (int i = 0; i < 3; i++) {
            Check.is("3: a school with a FAULT, half told", 1, () -> Check.school(t, all[0] + "known"));
            Check.is("3: a school that tells another line", 0, () -> Check.school(t, "sheet 4 6;"));
            windowAsWithout(t);
        }
    }

    /** From 20 far, 0 to 30 high, as by the flights of a plain sheet of 4 by 6, by a tower of 30. */
    private static void windowAsWithout(FoldTower t) {
        Check.is("WINDOW without, 22 high", 1, () -> t.flight(0, 0, false, 3));
        Check.is("WINDOW without, 2 high", 1, () -> t.flight(0, -2, false, 3));
        Check.is("WINDOW without, 30 high", 1, () -> t.flight(0, 2, false, 3));
    }

    /** Promise 4: "IllegalArgumentException likewise." */
    private static void rowOfNoSuchTape() {
        for (int n : new int[] {LEAST, -2, -1, 21, 40, 500, 501, MOST}) {
            FoldTower t = full();
            Seen.stays("4: row " + n + " of 20", t, "illegal", () -> t.row(n));
        }
        FoldTower empty = new FoldTower();
        Seen.stays("4: row 1 of none", empty, "illegal", () -> empty.row(1));
    }

    /** Promise 4: "with a FAULT NONE less it"; Terms: "none is done". */
    private static void rowWithFault() {
        int[] places = {0, 0, 0, 4, 5, 6};
        for (int n = 1; n <= 6; n++) {
            FoldTower t = full();
            int bytes = n;
            Seen.changes("4: row " + n + " that ends too soon", t, "-2",
                    "count 10: 20 -> 0, count 11: 1 -> 2, fault: 1 -> " + places[n - 1], () -> t.row(bytes));
        }
        String[] texts = {"left 1;left 5;", "left 1;left 0;", "left 1;left 1;;", "left 1;x", "left 1;left 1"};
        String[] due = {"-3", "-3", "-2", "-2", "-2"};
        int[] places2 = {12, 12, 14, 7, 13};
        for (int i = 0; i < texts.length; i++) {
            FoldTower t = full();
            t.row(0);
            String text = texts[i];
            Check.put(t, text);
            Seen.changes("4: row " + text, t, due[i],
                    "count 10: 20 -> 0, count 11: 1 -> 2, fault: -1 -> " + places2[i], () -> t.row(text.length()));
        }
    }

    /** Promise 4: "done now: how many FOLDS were done", of none and till one can't be. */
    private static void rowDone() {
        FoldTower none = full();
        Seen.changes("4: row of no byte", none, "0", "count 10: 20 -> 0, fault: 1 -> -1", () -> none.row(0));
        FoldTower cannot = full();
        cannot.row(0);
        Check.put(cannot, "nose 1;left 1;");
        Seen.changes("4: row of which the first can't be", cannot, "0", "count 10: 20 -> 0, count 12: 1 -> 2",
                () -> cannot.row(14));
        FoldTower one = full();
        Check.is("4: row of one", 1, () -> one.row(7));
        Check.is("4: row of one, FOLDS", 4, () -> one.count(4));
        Check.is("4: row of one, columns", 2, () -> one.count(2));
        FoldTower some = full();
        some.row(0);
        Check.is("4: row of which the third can't be", 2, () -> Check.row(some, "left 1;left 1;left 1;left 1;"));
        Check.is("4: row of which the third can't be, STATUS 1", 2, () -> some.count(12));
        Check.is("4: row of which the third can't be, FOLDS", 5, () -> some.count(4));
        FoldTower front = full();
        front.row(0);
        Check.put(front, "left 1;left 1;");
        Check.is("4: the tape's first bytes", 1, () -> front.row(7));
        Check.is("4: the rest is gone", 0, () -> front.count(10));
    }

    /** Promise 5: "The place of the latest school()'s, row()'s FAULT; NONE without." */
    private static void faultOfTheLatest() {
        FoldTower t = new FoldTower();
        Check.is("5: none yet", -1, t::fault);
        Check.is("5: a row", -2, () -> Check.row(t, "left 1;  x"));
        Check.is("5: of a row", 9, t::fault);
        Check.illegal("5: an exception", () -> t.row(1));
        Check.illegal("5: an exception", () -> t.school(-1));
        t.fold(0, 9);
        t.undo();
        t.image();
        t.restore();
        t.teach(-1, 0, 0, 0);
        t.feed(0, 0, 0, 0, 0);
        Check.is("5: other calls leave it", 9, t::fault);
        Check.is("5: a school", 1, () -> t.school(20));
        Check.is("5: of a school, the first byte", 0, t::fault);
        Check.is("5: a row without", 0, () -> Check.row(t, "left 4;"));
        Check.is("5: NONE behind a row that can't be", -1, t::fault);
        Check.is("5: a school with one", 1, () -> Check.school(t, "tower 7"));
        Check.is("5: of a school, its length", 7, t::fault);
        Check.is("5: a school without", 0, () -> Check.school(t, "tower 7;"));
        Check.is("5: NONE behind a school", -1, t::fault);
    }

    private static void countOfAnother() {
        for (int what : new int[] {LEAST, -2, -1, 14, 15, 256, MOST}) {
            FoldTower t = full();
            Seen.stays("6: count " + what, t, "none", () -> t.count(what));
        }
        int[] due = {4, 3, 3, 1, 3, 3 + 4 + 4, 0, -3, 3, 3, 20, 1, 1, 1};
        FoldTower t = full();
        for (int what = 0; what < 14; what++) {
            int w = what;
            Check.is("6: count " + what, due[w], () -> t.count(w));
        }
    }

    /** Promise 7: "k is not 0 to 9, another what". */
    private static void tableOfAnother() {
        int[] wrongs = {LEAST, -1, 10, MOST};
        FoldTower t = full();
        for (int what = 0; what < 5; what++) {
            int w = what;
            for (int k : wrongs) {
                Check.none("7: table " + k + " " + w, () -> t.table(k, w));
            }
            Check.same("7: table 0 " + w, false, Check.told(() -> t.table(0, w)).equals("none"));
            Check.same("7: table 9 " + w, false, Check.told(() -> t.table(9, w)).equals("none"));
        }
        for (int k : new int[] {0, 9, 10, -1}) {
            for (int what : new int[] {LEAST, -1, 5, MOST}) {
                Check.none("7: table " + k + " " + what, () -> t.table(k, what));
            }
        }
        FoldTower same = full();
        Seen.stays("7: table 10 0", same, "none", () -> same.table(10, 0));
    }

    /** Promise 8: "NONE (STATUS 1): it can't be. NoSuchElementException: another side." */
    private static void fold() {
        for (int side : new int[] {LEAST, -1, 4, MOST}) {
            for (int n : new int[] {1, 0, 9}) {
                FoldTower t = full();
                Seen.stays("8: fold " + side + " " + n, t, "none", () -> t.fold(side, n));
            }
        }
        // 3 columns and 1 row lie there.
        int[][] refused = {{0, 2}, {1, 2}, {0, 0}, {1, -1}, {2, 1}, {3, 1}, {2, 0}, {0, MOST}, {3, LEAST},
            {1, 0x10001}};
        for (int[] f : refused) {
            FoldTower t = full();
            Seen.changes("8: fold " + f[0] + " " + f[1], t, "-1", "count 12: 1 -> 2", () -> t.fold(f[0], f[1]));
        }
        for (int side = 0; side < 2; side++) {
            int s = side;
            FoldTower t = full();
            Check.is("8: fold " + s + " 1", 4, () -> t.fold(s, 1));
            Check.is("8: fold " + s + " 1, STATUS 1", 1, () -> t.count(12));
            Check.is("8: fold " + s + " 1, the BEST stays", 1, () -> t.found(-1));
            Check.is("8: fold " + s + " 1, ROWS stay", 3, () -> t.count(9));
        }
    }

    /** Promise 9: "how many are left. NONE: there is none." */
    private static void undo() {
        FoldTower plain = new FoldTower();
        Seen.stays("9: undo of none", plain, "-1", plain::undo);
        FoldTower t = full();
        for (int left = 2; left >= 0; left--) {
            Check.is("9: undo", left, t::undo);
        }
        Seen.stays("9: undo of none again", t, "-1", t::undo);
        FoldTower refused = new FoldTower();
        refused.fold(0, 3);
        Check.is("9: undo, a refused fold is none", -1, refused::undo);
        Check.is("9: undo, STATUS stays", 1, () -> refused.count(12));
    }

    /** Promise 10: "NoSuchElementException: no such place, no such LAYER." */
    private static void layer() {
        int[] wrongs = {LEAST, -1, 3, 4, 8, MOST};
        int[] wrongRows = {LEAST, -1, 1, 2, 3, MOST};
        FoldTower t = full();
        for (int i : new int[] {-1, 0}) {
            for (int x : wrongs) {
                Check.none("10: layer " + x + " 0 " + i, () -> t.layer(x, 0, i));
            }
            for (int y : wrongRows) {
                Check.none("10: layer 0 " + y + " " + i, () -> t.layer(0, y, i));
            }
            Check.none("10: layer 3 1 " + i, () -> t.layer(3, 1, i));
        }
        int[][] due = {{5, 104, 8, 109, 0, 101}, {6, 110, 102}, {7, 111, 103}};
        for (int x = 0; x < 3; x++) {
            int at = x;
            Check.is("10: how many at " + x, due[x].length, () -> t.layer(at, 0, -1));
            for (int i = 0; i < due[x].length; i++) {
                int k = i;
                Check.is("10: layer " + i + " at " + x, due[x][i], () -> t.layer(at, 0, k));
            }
            for (int i : new int[] {LEAST, -3, -2, due[x].length, 64, MOST}) {
                Check.none("10: layer " + i + " at " + x, () -> t.layer(at, 0, i));
            }
        }
        FoldTower same = full();
        Seen.stays("10: layer 0 0 6", same, "none", () -> same.layer(0, 0, 6));
    }

    /** Promise 11: "NoSuchElementException: no such CELLS." */
    private static void crease() {
        FoldTower t = full();
        for (int x : new int[] {LEAST, -1, 3, 4, MOST}) {
            Check.none("11: beside " + x + " 0", () -> t.crease(x, 0, false));
        }
        for (int y : new int[] {LEAST, -1, 3, MOST}) {
            Check.none("11: beside 0 " + y, () -> t.crease(0, y, false));
        }
        for (int x : new int[] {LEAST, -1, 4, MOST}) {
            Check.none("11: below " + x + " 0", () -> t.crease(x, 0, true));
        }
        for (int y : new int[] {LEAST, -1, 2, 3, MOST}) {
            Check.none("11: below 0 " + y, () -> t.crease(0, y, true));
        }
        Check.is("11: beside, the last", 0, () -> t.crease(2, 2, false));
        Check.is("11: beside, the first", 1, () -> t.crease(0, 0, false));
        Check.is("11: below, the last", 11, () -> t.crease(3, 1, true));
        Check.is("11: below, the first", 22, () -> t.crease(0, 0, true));
        Check.is("11: below, the first of the second", 12, () -> t.crease(0, 1, true));
        FoldTower same = full();
        Seen.stays("11: crease 3 0", same, "none", () -> same.crease(3, 0, false));
        FoldTower one = Check.schooled("sheet 1 1;");
        Check.none("11: of one CELL, beside", () -> one.crease(0, 0, false));
        Check.none("11: of one CELL, below", () -> one.crease(0, 0, true));
    }

    /** Promise 12: "NoSuchElementException: another what. IllegalArgumentException (behind that): MINUTE, TRIM." */
    private static void flight() {
        FoldTower t = full();
        for (int what : new int[] {LEAST, -1, 4, MOST}) {
            Check.none("12: what " + what, () -> t.flight(0, 0, false, what));
            Check.none("12: what " + what + " ahead of MINUTE", () -> t.flight(10, 0, false, what));
            Check.none("12: what " + what + " ahead of TRIM", () -> t.flight(0, -4, true, what));
            Check.none("12: what " + what + " ahead of both", () -> t.flight(-1, 4, true, what));
        }
        for (int what = 0; what < 4; what++) {
            int w = what;
            for (int minute : new int[] {LEAST, -1, 10, MOST}) {
                Check.illegal("12: MINUTE " + minute, () -> t.flight(minute, 0, false, w));
                Check.illegal("12: MINUTE " + minute + " and TRIM", () -> t.flight(minute, 4, false, w));
            }
            for (int trim : new int[] {LEAST, -4, 4, MOST}) {
                Check.illegal("12: TRIM " + trim, () -> t.flight(9, trim, true, w));
            }
            for (int minute : new int[] {0, 9}) {
                for (int trim : new int[] {-3, 3}) {
                    String answer = Check.told(() -> t.flight(minute, trim, false, w));
                    Check.same("12: MINUTE " + minute + ", TRIM " + trim, true, answer.matches("-?[0-9]+"));
                }
            }
        }
        FoldTower same = full();
        Seen.stays("12: flight of another what", same, "none", () -> same.flight(0, 0, false, 4));
    }

    /** Promise 13: "another what; also (behind IllegalArgumentException: MINUTE, TRIM) it has not so many". */
    private static void step() {
        FoldTower t = Check.schooled("sheet 1 1;tower 5;table 0 2 2;");
        for (int what : new int[] {LEAST, -1, 3, MOST}) {
            Check.none("13: what " + what, () -> t.step(0, 0, false, 0, what));
            Check.none("13: what " + what + " ahead of MINUTE", () -> t.step(10, 0, false, 0, what));
            Check.none("13: what " + what + " ahead of TRIM", () -> t.step(0, 4, false, 4, what));
        }
        for (int what = 0; what < 3; what++) {
            int w = what;
            for (int minute : new int[] {LEAST, -1, 10, MOST}) {
                Check.illegal("13: MINUTE " + minute, () -> t.step(minute, 0, false, 0, w));
                Check.illegal("13: MINUTE " + minute + " ahead of steps", () -> t.step(minute, 0, false, 4, w));
            }
            for (int trim : new int[] {LEAST, -4, 4, MOST}) {
                Check.illegal("13: TRIM " + trim, () -> t.step(0, trim, false, 0, w));
                Check.illegal("13: TRIM " + trim + " ahead of steps", () -> t.step(0, trim, false, -1, w));
            }
            for (int steps : new int[] {LEAST, -1, 4, 5, 200, 201, MOST}) {
                Check.none("13: " + steps + " steps of 3", () -> t.step(0, 0, false, steps, w));
            }
            int[][] due = {{0, 5, 0}, {6, -1, 0}};
            Check.is("13: 0 steps, " + w, due[0][w], () -> t.step(9, 0, false, 0, w));
            Check.is("13: 3 steps, " + w, due[1][w], () -> t.step(9, 0, false, 3, w));
        }
        // Wet it is 3 lower a step: it has but two; by trim 3 it has 200.
        Check.is("13: wet, 2 steps", -1, () -> t.step(0, 0, true, 2, 1));
        Check.none("13: wet, 3 steps", () -> t.step(0, 0, true, 3, 1));
        Check.is("13: trimmed, 200 steps", 5, () -> t.step(0, 3, false, 200, 1));
        Check.none("13: trimmed, 201 steps", () -> t.step(0, 3, false, 201, 1));
        FoldTower same = full();
        Seen.stays("13: step of so many", same, "none", () -> same.step(0, 0, false, 201, 0));
    }

    /** Promise 14: "NoSuchElementException: another what. IllegalArgumentException (behind that): L, MINUTE." */
    private static void best() {
        for (int what : new int[] {LEAST, -1, 3, MOST}) {
            FoldTower t = full();
            Check.none("14: what " + what + " ahead of L", () -> t.best(what, 5, 0));
            Check.none("14: what " + what + " ahead of MINUTE", () -> t.best(what, 0, -1));
            Seen.stays("14: what " + what, t, "none", () -> t.best(what, 0, 0));
        }
        for (int wrong : new int[] {LEAST, -1, MOST}) {
            FoldTower t = full();
            Seen.stays("14: L " + wrong, t, "illegal", () -> t.best(0, wrong, 0));
            Check.illegal("14: MINUTE " + wrong, () -> t.best(2, 0, wrong));
        }
        FoldTower t = full();
        Check.illegal("14: L 5", () -> t.best(1, 5, 0));
        Check.illegal("14: L 5, MINUTE 10", () -> t.best(1, 5, 10));
        Seen.stays("14: MINUTE 10", t, "illegal", () -> t.best(0, 4, 10));
        FoldTower none = Check.schooled("window 200 200 200;");
        none.rows(0, true);
        Seen.stays("14: none goes through", none, "-10000", () -> none.best(2, 4, 9));
        FoldTower kept = full();
        Seen.changesOnly("14: kept", kept, "found", () -> kept.best(1, 4, 9));
    }

    /** Promise 15: "NoSuchElementException: none is kept, there is none." */
    private static void found() {
        FoldTower plain = new FoldTower();
        for (int i : new int[] {LEAST, -3, -2, -1, 0, 1, 4, MOST}) {
            Check.none("15: none is kept, " + i, () -> plain.found(i));
        }
        FoldTower t = new FoldTower();
        t.best(0, 0, 0);
        Check.is("15: a row of none", 0, () -> t.found(-1));
        Check.is("15: a row of none, TRIM", 2, () -> t.found(-2));
        for (int i : new int[] {LEAST, -4, -3, 0, 1, 3, 4, MOST}) {
            Check.none("15: a row of none, " + i, () -> t.found(i));
        }
        Check.row(t, "left 1;nose 1;left 1;tail 2;");
        Check.is("15: four are told so", 1, () -> t.rows(4, false));
        int[] due = {0, 4, 0, 7};
        Check.is("15: four", 4, () -> t.found(-1));
        Check.is("15: four, TRIM 0", 0, () -> t.found(-2));
        for (int i = 0; i < 4; i++) {
            int k = i;
            Check.is("15: four, " + k, due[k], () -> t.found(k));
        }
        for (int i : new int[] {LEAST, -3, 4, 5, MOST}) {
            Check.none("15: four, " + i, () -> t.found(i));
        }
        t.rows(0, false);
        Check.is("15: it stays where there is none", 4, () -> t.found(-1));
    }

    /** Promise 16: "NoSuchElementException: another what. IllegalArgumentException (behind that): the TRIM." */
    private static void mean() {
        FoldTower t = full();
        for (int what : new int[] {LEAST, -1, 2, MOST}) {
            Check.none("16: what " + what, () -> t.mean(0, what));
            Check.none("16: what " + what + " ahead of TRIM", () -> t.mean(4, what));
        }
        for (int trim : new int[] {LEAST, -4, 4, MOST}) {
            Check.illegal("16: TRIM " + trim, () -> t.mean(trim, 0));
            Check.illegal("16: TRIM " + trim + ", lower", () -> t.mean(trim, 1));
        }
        FoldTower same = full();
        Seen.stays("16: mean of TRIM 4", same, "illegal", () -> same.mean(4, 0));
        // 2 by 1 of each of 8 minutes, 4 by 5 of minute 1, by 0 of minute 9: of 13 in all.
        FoldTower plain = Check.schooled("sheet 1 1;tower 1;table 0 5 20;wind 1 2 0 5;wind 9 1 0 0;");
        Check.is("16: TRIM -3", 8 * 2 + 5 * 4, () -> plain.mean(-3, 0));
        Check.is("16: TRIM -3, lower", 13, () -> plain.mean(-3, 1));
        Check.is("16: TRIM 3", 36, () -> plain.mean(3, 0));
    }

    /** Promise 17: "-2: SPENT. IllegalArgumentException: L." */
    private static void rows() {
        for (int l : new int[] {LEAST, -1, 5, MOST}) {
            FoldTower t = full();
            Seen.stays("17: L " + l, t, "illegal", () -> t.rows(l, false));
            Check.illegal("17: L " + l + ", alike", () -> t.rows(l, true));
        }
        FoldTower none = full();
        Seen.stays("17: by none", none, "0", () -> none.rows(2, false));
        FoldTower alike = full();
        Seen.stays("17: alike by none", alike, "0", () -> alike.rows(1, true));
        FoldTower one = full();
        Seen.changesOnly("17: by one", one, "found", () -> one.rows(4, false));
        Check.is("17: by one, TRIM 0", 0, () -> one.found(-2));
        Check.is("17: by one, FOLDS", 3, () -> one.found(-1));
    }

    /** Promise 18: "IllegalArgumentException: bits of MINUTES that there aren't, none, more than 7." */
    private static void evening() {
        int[] refused = {0, 0b11111111, 0b1111111111, 1 << 10, 1 << 10 | 1, 1 << 31, 1 << 31 | 3, -1, 0b1101111111};
        for (int bits : refused) {
            FoldTower t = full();
            Seen.stays("18: bits " + bits, t, "illegal", () -> t.evening(bits));
        }
        FoldTower t = full();
        Seen.changesOnly("18: of one", t, "trim", () -> t.evening(1 << 9));
        FoldTower seven = full();
        Seen.changesOnly("18: of seven", seven, "trim", () -> seven.evening(0b1110110110));
    }

    /** Promise 19: "NoSuchElementException: there was none since the latest SCHOOL, it isn't one of it." */
    private static void trim() {
        FoldTower t = full();
        for (int minute : new int[] {LEAST, -1, 1, 3, 4, 5, 6, 7, 8, 9, 10, MOST}) {
            Check.none("19: minute " + minute, () -> t.trim(minute));
        }
        Check.same("19: minute 0", true, Check.told(() -> t.trim(0)).matches("-?[0-3]"));
        Check.same("19: minute 2", true, Check.told(() -> t.trim(2)).matches("-?[0-3]"));
        t.evening(1 << 9);
        Check.same("19: minute 9", true, Check.told(() -> t.trim(9)).matches("-?[0-3]"));
        Check.none("19: of the latest alone", () -> t.trim(0));
        Check.illegal("19: one that is refused", () -> t.evening(255));
        Check.same("19: one that is refused is none", true, Check.told(() -> t.trim(9)).matches("-?[0-3]"));
        Check.is("19: a SCHOOL with a FAULT", 1, () -> t.school(20));
        Check.same("19: a SCHOOL with a FAULT is none", true, Check.told(() -> t.trim(9)).matches("-?[0-3]"));
        Check.is("19: a SCHOOL", 0, () -> t.school(0));
        for (int minute = 0; minute < 10; minute++) {
            int m = minute;
            Check.none("19: none since the SCHOOL, minute " + m, () -> t.trim(m));
        }
    }

    /** Promise 20: "NONE (STATUS 2): there are 12, one is not as told, there is none of them." */
    private static void teach() {
        // Three FOLDS are KNOWN: 0 to 2.
        int[][] refused = {{-1, -1, -1, -1}, {3, -1, -1, -1}, {0, 3, -1, -1}, {0, 1, 3, -1}, {0, 1, 2, 3},
            {-2, -1, -1, -1}, {0, -2, -1, -1}, {0, 0, -2, -1}, {0, 0, 0, -2},
            {-1, 0, -1, -1}, {-1, -1, 0, -1}, {-1, -1, -1, 0}, {0, -1, 0, -1},
            {0, -1, -1, 0}, {0, 1, -1, 2}, {0, -1, 1, 2}, {-1, 0, 1, 2}, {LEAST, -1, -1, -1}, {MOST, -1, -1, -1},
            {0, MOST, -1, -1}, {0, 0, 0, LEAST}};
        for (int[] n : refused) {
            FoldTower t = full();
            Seen.changes("20: teach " + n[0] + " " + n[1] + " " + n[2] + " " + n[3], t, "-1", "count 13: 1 -> 2",
                    () -> t.teach(n[0], n[1], n[2], n[3]));
        }
        int[][] told = {{0, -1, -1, -1}, {2, 2, -1, -1}, {2, 1, 0, -1}, {2, 2, 2, 2}};
        for (int[] n : told) {
            FoldTower t = full();
            Check.is("20: teach, the least and the greatest number", 4, () -> t.teach(n[0], n[1], n[2], n[3]));
            Check.is("20: teach, STATUS 2", 1, () -> t.count(13));
            Check.is("20: teach, how many", 4, () -> t.count(9));
        }
        FoldTower ten = Check.schooled("known left 1;known left 2;known left 3;known left 4;known nose 1;known nose 2;"
                + "known nose 3;known nose 4;known tail 1;known tail 2;");
        Check.is("20: teach by the last of ten", 1, () -> ten.teach(9, 9, 9, 9));
        Check.is("20: teach by none of ten", -1, () -> ten.teach(9, 9, 9, 10));
        FoldTower eight = new FoldTower();
        Check.is("20: teach by the last of eight", 1, () -> eight.teach(7, -1, -1, -1));
        Check.is("20: teach by none of eight", -1, () -> eight.teach(8, -1, -1, -1));
    }

    /** Promise 20: "there are 12". */
    private static void teachTwelve() {
        FoldTower t = full();
        for (int i = 4; i <= 12; i++) {
            int due = i;
            Check.is("20: teach", due, () -> t.teach(2, 1, 0, -1));
        }
        Seen.changes("20: there are 12", t, "-1", "count 13: 1 -> 2", () -> t.teach(0, -1, -1, -1));
        t.restore();
        Check.is("20: there are 2 again", 3, () -> t.teach(0, -1, -1, -1));
    }

    /** Promise 21: "NoSuchElementException: there is none." */
    private static void taught() {
        FoldTower plain = new FoldTower();
        for (int i : new int[] {LEAST, -2, 0, 1, 11, 12, MOST}) {
            Check.none("21: of none, " + i, () -> plain.taught(i));
        }
        Check.is("21: how many of none", 0, () -> plain.taught(-1));
        FoldTower t = full();
        Check.is("21: how many of three", 2, () -> t.taught(-1));
        for (int i : new int[] {LEAST, -3, -2, 2, 3, 11, 12, MOST}) {
            Check.none("21: of two, " + i, () -> t.taught(i));
        }
        Check.is("21: the first", 0, () -> t.taught(0));
        Check.is("21: the second", 1, () -> t.taught(1));
        FoldTower most = new FoldTower();
        for (int i = 0; i < 12; i++) {
            most.teach(i % 8, -1, -1, -1);
        }
        Check.is("21: all 12", 12, () -> most.taught(-1));
        Check.is("21: the twelfth", 11, () -> most.taught(11));
        Check.none("21: no thirteenth", () -> most.taught(12));
        FoldTower same = full();
        Seen.stays("21: taught of none", same, "none", () -> same.taught(2));
    }

    /** Promise 22: "AN IMAGE is kept, in place of another one." */
    private static void image() {
        FoldTower t = full();
        Seen.stays("22: image", t, "0", () -> {
            t.image();
            return 0;
        });
        t.undo();
        t.undo();
        Check.is("22: as the latest", 1, () -> t.restore() ? 1 : 0);
        Check.is("22: as the latest, FOLDS", 3, () -> t.count(4));
        Check.is("22: as the latest, ROWS", 3, () -> t.count(9));
    }

    /** Promise 23: "It is as the IMAGE again: true. False: there is none." */
    private static void restore() {
        FoldTower none = new FoldTower();
        Seen.stays("23: there is none", none, "0", () -> none.restore() ? 1 : 0);
        FoldTower t = imaged();
        Seen before = new Seen(t);
        afterImage(t);
        for (int i = 0; i < 3; i++) {
            t.undo();
        }
        t.fold(0, 9);
        Check.row(t, "x");
        t.feed(0, 0, 0, 0, 0);
        t.teach(-1, -1, -1, -1);
        Check.is("23: as the IMAGE", 1, () -> t.restore() ? 1 : 0);
        Check.same("23: as the IMAGE, but for what it keeps not", "count 10: 0 -> 20, fault: 1 -> 0",
                before.changesTo(new Seen(t)));
        t.undo();
        Check.is("23: as the IMAGE once more", 1, () -> t.restore() ? 1 : 0);
        Check.is("23: as the IMAGE once more, FOLDS", 2, () -> t.count(4));
        FoldTower other = imaged();
        other.best(1, 0, 3);
        other.evening(8);
        Check.is("23: as the IMAGE, another BEST and EVENING since", 1, () -> other.restore() ? 1 : 0);
        Check.is("23: the BEST stays", 0, () -> other.found(-1));
        Check.none("23: AN EVENING stays", () -> other.trim(0));
        Check.same("23: AN EVENING stays, its minute", false, Check.told(() -> other.trim(3)).equals("none"));
    }

    /** What is folded otherwise since the image is folded as in it again. */
    private static void restoreOtherFolds() {
        FoldTower t = new FoldTower();
        Check.row(t, "left 1;nose 2;");
        t.image();
        t.undo();
        t.undo();
        Check.row(t, "right 2;tail 1;nose 1;");
        Check.is("23: other FOLDS since", 1, () -> t.restore() ? 1 : 0);
        Check.is("23: other FOLDS since, FOLDS", 2, () -> t.count(4));
        Check.is("23: other FOLDS since, columns", 3, () -> t.count(2));
        Check.is("23: other FOLDS since, the first CREASE", 1, () -> t.crease(0, 5, false));
        Check.is("23: other FOLDS since, the second CREASE", 11, () -> t.crease(3, 1, true));
        Check.is("23: other FOLDS since, no other CREASE", 0, () -> t.crease(1, 0, false) + t.crease(0, 4, true));
        Check.is("23: other FOLDS since, undone", 1, t::undo);
        Check.is("23: other FOLDS since, undone, rows", 6, () -> t.count(3));
        Check.is("23: other FOLDS since, undone, columns", 3, () -> t.count(2));
        Check.is("23: the IMAGE is not undone", 1, () -> t.restore() ? 1 : 0);
        Check.is("23: the IMAGE is not undone, rows", 4, () -> t.count(3));
    }

    /** Each call that is refused, and each that throws, leaves the image as it is. */
    private static void refusedLeavesTheImage() {
        for (int call = 0; call < 24; call++) {
            FoldTower t = full();
            int c = call;
            Check.told(() -> refused(t, c));
            Check.is("the image behind refused call " + c, 1, () -> t.restore() ? 1 : 0);
            int[] whats = {2, 3, 4, 9, 11, 12, 13};
            int[] due = {3, 2, 2, 2, 1, 1, 1};
            for (int i = 0; i < whats.length; i++) {
                int k = i;
                Check.is("the image behind refused call " + c + ", count " + whats[k], due[k], () -> t.count(whats[k]));
            }
        }
    }

    private static int refused(FoldTower t, int call) {
        switch (call) {
            case 0: return t.school(20);
            case 1: return t.school(21);
            case 2: return t.row(5);
            case 3: return t.row(-1);
            case 4: return t.fold(2, 1);
            case 5: return t.fold(4, 1);
            case 6: return t.count(14);
            case 7: return t.table(10, 0);
            case 8: return t.layer(9, 9, 9);
            case 9: return t.crease(9, 9, true);
            case 10: return t.flight(10, 0, false, 0);
            case 11: return t.flight(0, 0, false, 9);
            case 12: return t.step(0, 0, false, 999, 0);
            case 13: return t.best(9, 0, 0);
            case 14: return t.best(0, 9, 0);
            case 15: return t.best(2, 0, 5);
            case 16: return t.found(9);
            case 17: return t.mean(9, 0);
            case 18: return t.rows(9, true);
            case 19: return t.rows(0, true);
            case 20: return t.evening(1024);
            case 21: return t.trim(9);
            case 22: return t.teach(9, -1, -1, -1);
            default: return t.taught(9);
        }
    }
}
