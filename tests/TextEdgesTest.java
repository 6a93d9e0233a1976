import java.util.ArrayList;
import java.util.Arrays;
import java.util.List;

/** The edges of "Terms 1", of what a TEXT tells and of its FAULTS: each test bears its term and its sentence. */
public final class TextEdgesTest {
    /** A text with a gap for a number, and what the number may be. */
    private record Range(String text, int least, int most) {
        String with(String number) {
            return text.replace("#", number);
        }

        int place() {
            return text.indexOf('#');
        }
    }

    private static final Range[] SCHOOL_RANGES = {
        new Range("sheet # 3;", 1, 8), new Range("sheet 3 #;", 1, 8),
        new Range("table # 3 3;", 0, 9), new Range("table 3 # 3;", 0, 20), new Range("table 3 3 #;", 0, 20),
        new Range("wind # 3 3;", 0, 9), new Range("wind 3 # 3;", 0, 5), new Range("wind 3 -# 3;", 0, 5),
        new Range("wind 3 3 #;", 0, 5), new Range("wind 3 3 -#;", 0, 5), new Range("wind 3 3 3 #;", 0, 99),
        new Range("wind 3 -3 - 3 #;", 0, 99), new Range("tower #;", 1, 200),
        new Range("window # 3 3;", 1, 200), new Range("window 3 # 200;", 0, 200), new Range("window 3 0 #;", 0, 200),
        new Range("known left #;", 1, 4), new Range("known right #;", 1, 4),
        new Range("known nose #;", 1, 4), new Range("known tail #;", 1, 4)};
    private static final Range[] ROW_RANGES = {
        new Range("left #;", 1, 4), new Range("right #;", 1, 4),
        new Range("nose #;", 1, 4), new Range("tail #;", 1, 4)};

    private TextEdgesTest() {
    }

    public static void main(String[] args) {
        sheet();
        table();
        wind();
        tower();
        window();
        known();
        text();
        tokens();
        blanks();
        lines();
        words();
        ranges();
        faults();
        toldTwice();
        Check.end();
    }

    private static void schoolFault(String text, int kind, int place) {
        FoldTower t = new FoldTower();
        Check.is("FAULT of school " + text, kind, () -> Check.school(t, text));
        Check.is("FAULT's place of school " + text, place, t::fault);
    }

    private static void rowFault(String text, int kind, int place) {
        FoldTower t = new FoldTower();
        Check.is("FAULT of row " + text, -1 - kind, () -> Check.row(t, text));
        Check.is("FAULT's place of row " + text, place, t::fault);
        Check.is("none is done of row " + text, 0, () -> t.count(4));
    }

    /** "A SHEET has W by H CELLS (1 to 8 each; 4 by 6 without), x from left to right, y from the NOSE (0)". */
    private static void sheet() {
        int[][] sides = {{1, 1}, {1, 8}, {8, 1}, {8, 8}, {4, 6}};
        for (int[] side : sides) {
            int w = side[0];
            int h = side[1];
            FoldTower t = w == 4 ? new FoldTower() : Check.schooled("sheet " + w + " " + h + ";");
            String name = "SHEET " + w + " by " + h + ": ";
            Check.is(name + "W", w, () -> t.count(0));
            Check.is(name + "H", h, () -> t.count(1));
            Check.is(name + "the first at the nose", 0, () -> t.layer(0, 0, 0));
            Check.is(name + "the last of the first row", w - 1, () -> t.layer(w - 1, 0, 0));
            Check.is(name + "the last", w * h - 1, () -> t.layer(w - 1, h - 1, 0));
            Check.none(name + "right of it", () -> t.layer(w, 0, -1));
            Check.none(name + "behind its tail", () -> t.layer(0, h, -1));
            Check.none(name + "no crease right of it", () -> t.crease(w - 1, 0, false));
            Check.none(name + "no crease behind its tail", () -> t.crease(0, h - 1, true));
            if (w > 1) {
                Check.is(name + "the last crease beside", 0, () -> t.crease(w - 2, h - 1, false));
            }
            if (h > 1) {
                Check.is(name + "the last crease below", 0, () -> t.crease(w - 1, h - 2, true));
            }
        }
    }

    /** "TABLE: by NOSINESS 0 to 9 .. FORWARD (0 to 20; as much as NOSINESS without), SINK (0 to 20; without: ..)". */
    private static void table() {
        FoldTower plain = new FoldTower();
        int[] sinks = {7, 6, 5, 4, 3, 2, 1, 2, 3, 4};
        for (int k = 0; k < 10; k++) {
            int n = k;
            Check.is("TABLE without, FORWARD of " + k, k, () -> plain.table(n, 0));
            Check.is("TABLE without, SINK of " + k, sinks[k], () -> plain.table(n, 1));
        }
        FoldTower t = Check.schooled("table 0 20 0;table 9 0 20;");
        Check.is("TABLE of 0, FORWARD 20", 20, () -> t.table(0, 0));
        Check.is("TABLE of 0, SINK 0", 0, () -> t.table(0, 1));
        Check.is("TABLE of 9, FORWARD 0", 0, () -> t.table(9, 0));
        Check.is("TABLE of 9, SINK 20", 20, () -> t.table(9, 1));
        Check.is("TABLE of one that isn't told, FORWARD", 8, () -> t.table(8, 0));
        Check.is("TABLE of one that isn't told, SINK", 3, () -> t.table(8, 1));
    }

    /** "WIND: by MINUTES 0 to 9 a PUSH and a LIFT (-5 to 5 each; 0 without), a WEIGHT (0 to 99; 1 without)". */
    private static void wind() {
        FoldTower t = Check.schooled("wind 0 -5 5 0;wind 9 5 -5 99;wind 4 -0 0;wind 5 - 1 -\n2;wind 6 1 2 3;");
        int[][] due = {{0, -5, 5, 0}, {9, 5, -5, 99}, {4, 0, 0, 1}, {5, -1, -2, 1}, {6, 1, 2, 3}, {1, 0, 0, 1}};
        String[] names = {"PUSH", "LIFT", "WEIGHT"};
        for (int[] wind : due) {
            for (int i = 0; i < 3; i++) {
                int what = 2 + i;
                Check.is("WIND " + wind[0] + " " + names[i], wind[1 + i], () -> t.table(wind[0], what));
            }
        }
    }

    /** "TOWER: from how high (1 to 200; 30 without)". */
    private static void tower() {
        Check.is("TOWER without", 30, () -> new FoldTower().step(0, 0, false, 0, 1));
        Check.is("TOWER 1", 1, () -> Check.schooled("tower 1;").step(0, 0, false, 0, 1));
        Check.is("TOWER 200", 200, () -> Check.schooled("tower 200;").step(0, 0, false, 0, 1));
        Check.is("TOWER without in a school", 30, () -> Check.schooled("sheet 1 1;").step(0, 0, false, 0, 1));
    }

    /** How far a flight goes in its one step, and how high it is behind it, so that one window shows. */
    private static int throughBy(String window, int far, int high) {
        int pace = Math.min(far, 20);
        FoldTower t = Check.schooled("sheet 1 1;tower " + (high + 1) + ";table 0 " + pace + " 1;" + window);
        return t.flight(0, 0, false, 3);
    }

    /** "WINDOW: how far D (1 to 200), from A to B high (0 to 200, A no more; 20, 0, 30 without)". */
    private static void window() {
        // Without: the first step takes it to 20 or 19 far, 30 or 31 high; or to 20 far at 0 high, or below it.
        Check.is("WINDOW without, 20 far and 30 high", 1, () -> throughBy("", 20, 30));
        Check.is("WINDOW without, 31 high", 0, () -> throughBy("", 20, 31));
        Check.is("WINDOW without, 0 high", 1, () -> throughBy("", 20, 0));
        FoldTower below = Check.schooled("sheet 1 1;tower 1;table 0 20 2;");
        Check.is("WINDOW without, below 0", 0, () -> below.flight(0, 0, false, 3));
        FoldTower short19 = Check.schooled("sheet 1 1;tower 1;table 0 19 1;");
        Check.is("WINDOW without, 19 far", 0, () -> short19.flight(0, 0, false, 3));
        FoldTower all20 = Check.schooled("sheet 1 1;tower 200;table 0 20 1;window 200 190 190;");
        Check.is("WINDOW of 200 far", 1, () -> all20.flight(0, 0, false, 3));
        Check.is("WINDOW of 1 far", 1, () -> throughBy("window 1 0 200;", 1, 5));
        Check.is("WINDOW from 200 to 200 high", 1,
                () -> Check.schooled("sheet 1 1;tower 200;table 0 1 0;window 1 200 200;").flight(0, 0, false, 3));
        Check.is("WINDOW from 0 to 0 high", 1, () -> throughBy("window 1 0 0;", 1, 0));
        Check.is("WINDOW from 0 to 0 high, 1 high", 0, () -> throughBy("window 1 0 0;", 1, 1));
        schoolFault("window 5 7 7;", 0, -1);
        schoolFault("window 5 7 6;", 2, 11);
        schoolFault("window 5 0 0;", 0, -1);
        schoolFault("window 5 200 200;", 0, -1);
        schoolFault("window 5 200 199;", 2, 13);
        // What is too much and what is too little for it stand at the same number: one fault.
        schoolFault("window 5 201 200;", 2, 9);
        schoolFault("window 5 7 201;", 2, 11);
    }

    /** "all of 'left', 'right', 'nose', 'tail' by 1 and 2 without; else those told (at most 10)". */
    private static void known() {
        FoldTower t = Check.schooled("sheet 8 8;");
        Check.is("KNOWN without", 8, () -> t.count(8));
        for (int k = 0; k < 8; k++) {
            int number = k;
            Check.is("KNOWN without, fold " + k, 1, () -> t.fold(number / 2, 1 + number % 2));
            // Just this single fold leaves just these creases.
            Check.is("KNOWN without, rows as " + k, 1, () -> t.rows(1, false));
            Check.is("KNOWN without, number " + k, number, () -> t.found(0));
            t.undo();
        }
        String[] told = {"left 1;", "right 4;", "nose 3;", "tail 2;", "left 2;", "right 1;", "nose 4;", "tail 4;",
            "left 4;", "nose 1;"};
        StringBuilder text = new StringBuilder("sheet 8 8;");
        for (int k = 0; k < 10; k++) {
            text.append("known ").append(told[k]);
            FoldTower some = Check.schooled(text.toString());
            Check.is("KNOWN are those told: " + (k + 1), k + 1, () -> some.count(8));
        }
        FoldTower ten = Check.schooled(text.toString());
        for (int k = 0; k < 10; k++) {
            int number = k;
            Check.is("KNOWN " + told[k], 1, () -> Check.row(ten, told[number]));
            ten.rows(1, false);
            // By a half left 4 leaves what right 4 leaves, and nose 4 what tail 4 leaves.
            int due = k == 8 ? 1 : k == 7 ? 6 : k;
            Check.is("KNOWN in the order told: " + k, due, () -> ten.found(0));
            ten.undo();
        }
        schoolFault(text + "known left 1;", 2, text.length());
        schoolFault(text + "known left 3;", 2, text.length());
        schoolFault(text + "known ", 2, text.length());
        schoolFault(text + "sheet", 3, text.length());
    }

    /** "A TEXT of at most 500 bytes tells it": nothing at all, and as much as there may be. */
    private static void text() {
        FoldTower t = new FoldTower();
        Check.is("TEXT of a school of no byte", 0, () -> t.school(0));
        Check.is("TEXT of a row of no byte", 0, () -> t.row(0));
        Check.put(t, " ".repeat(490) + "tower 200;");
        Check.is("TEXT of a school of 500 bytes", 0, () -> t.school(500));
        Check.is("TEXT of a school of 500 bytes, told by its last", 200, () -> t.step(0, 0, false, 0, 1));
        Check.put(t, " ".repeat(490) + "tower 201;");
        Check.is("TEXT of 500 bytes with a FAULT", 2, () -> t.school(500));
        Check.is("TEXT of 500 bytes, the FAULT's place", 496, t::fault);
        Check.put(t, " ".repeat(491) + "tower 200");
        Check.is("TEXT of 500 bytes that ends too soon", 1, () -> t.school(500));
        Check.is("TEXT of 500 bytes, its length", 500, t::fault);
        Check.put(t, " ".repeat(491) + "tower 200");
        Check.is("TEXT that ends within a NUMBER", 1, () -> t.school(498));
        Check.is("TEXT that ends within a NUMBER, its length", 498, t::fault);
        Check.put(t, "\n".repeat(499) + ";");
        Check.is("TEXT of 500 bytes, the last can't stand", 1, () -> t.school(500));
        Check.is("TEXT of 500 bytes, the last byte's place", 499, t::fault);
        Check.put(t, "\n".repeat(499) + ";");
        Check.is("TEXT without its last byte", 0, () -> t.school(499));
        FoldTower most = Check.schooled("sheet 8 8;");
        Check.put(most, "left1;".repeat(7) + "nose1;".repeat(7) + " ".repeat(500 - 84));
        Check.is("TEXT of a row of 500 bytes", 14, () -> most.row(500));
        Check.put(most, "tail4;".repeat(83) + "  ");
        Check.is("TEXT of a row of 83 folds, of which none can be", 0, () -> most.row(500));
        Check.is("TEXT of a row, STATUS 1 counts the first that can't be", 1, () -> most.count(12));
        Check.put(most, "tail4;".repeat(82) + "tail4;.");
        Check.is("TEXT of a row of 499 bytes with a FAULT at its end", -2, () -> most.row(499));
        Check.is("TEXT of a row, the FAULT's place at its end", 498, most::fault);
    }

    /** "words (a .. z, the longest row), NUMBERS (1 to 3 digits), signs ; - and blanks (32, 10) between them". */
    private static void tokens() {
        schoolFault("tower9;", 0, -1);
        schoolFault("tower009;", 0, -1);
        schoolFault("tower 09 ;", 0, -1);
        schoolFault("tower 0009;", 2, 6);
        schoolFault("tower 0000;", 2, 6);
        schoolFault("tower 9999999999999999999999;", 2, 6);
        schoolFault("tower 4294967297;", 2, 6);
        schoolFault("tower 1 9;", 1, 8);
        schoolFault("tower 1 9999;", 1, 8);
        schoolFault("9999 tower 1;", 1, 0);
        schoolFault("towers 9;", 1, 0);
        schoolFault("towe r 9;", 1, 0);
        schoolFault("towe", 1, 0);
        schoolFault("towertower 9;", 1, 0);
        schoolFault("towerz9;", 1, 0);
        schoolFault("atower 9;", 1, 0);
        schoolFault("tower`9;", 1, 5);
        schoolFault("tower{9;", 1, 5);
        schoolFault("tower/9;", 1, 5);
        schoolFault("tower:9;", 1, 5);
        schoolFault("tower 9/;", 1, 7);
        schoolFault("tower 9:;", 1, 7);
        schoolFault("tower 9.;", 1, 7);
        schoolFault("tower 9,;", 1, 7);
        schoolFault("tower 9<", 1, 7);
        schoolFault("Tower 9;", 1, 0);
        schoolFault("towEr 9;", 1, 0);
        schoolFault("TOWER 9;", 1, 0);
        schoolFault("tower - 9;", 1, 6);
        schoolFault("- tower 9;", 1, 0);
        schoolFault("wind 1 - -1 1;", 1, 9);
        schoolFault("sheet 11;", 2, 6);
        schoolFault("sheet 1 1;tower 1;table 0 1 1;", 0, -1);
        schoolFault("sheet1 1;tower1;table0 1 1;wind0-1-1;wind1 1-1 1;known left1;", 0, -1);
        rowFault("lef 1;", 1, 0);
        rowFault("leftright 1;", 1, 0);
        rowFault("left 1 left 1;", 1, 7);
        rowFault("left -1;", 1, 5);
        rowFault("Left 1;", 1, 0);
        rowFault("known left 1;", 1, 0);
        rowFault("left 0001;", 2, 5);
        Check.is("TOKENS of a row without blanks", 2, () -> Check.row(new FoldTower(), "left1;nose001;"));
    }

    /** Each byte between the tokens, before and behind them: 32 and 10 alone count for nothing. */
    private static void blanks() {
        for (int b = 0; b < 256; b++) {
            char sign = (char) b;
            boolean blank = b == 32 || b == 10;
            boolean letter = b >= 'a' && b <= 'z';
            boolean digit = b >= '0' && b <= '9';
            FoldTower between = new FoldTower();
            Check.is("TOKENS, byte " + b + " between a word and a number", blank || digit ? 0 : 1,
                    () -> Check.school(between, "tower" + sign + "9;"));
            Check.is("TOKENS, byte " + b + " between, the place", blank || digit ? -1 : letter ? 0 : 5, between::fault);
            FoldTower before = new FoldTower();
            Check.is("TOKENS, byte " + b + " before all", blank ? 0 : 1, () -> Check.school(before, sign + "tower 9;"));
            Check.is("TOKENS, byte " + b + " before all, the place", blank ? -1 : 0, before::fault);
            FoldTower behind = new FoldTower();
            Check.is("TOKENS, byte " + b + " behind all", blank ? 0 : 1, () -> Check.school(behind, "tower 9;" + sign));
            Check.is("TOKENS, byte " + b + " behind all, the place", blank ? -1 : 8, behind::fault);
            FoldTower inRow = new FoldTower();
            Check.is("TOKENS, byte " + b + " in a row", blank ? 1 : digit ? -3 : -2,
                    () -> Check.row(inRow, "left 1" + sign + ";"));
            Check.is("TOKENS, byte " + b + " in a row, the place", blank ? -1 : digit ? 5 : sign == ';' ? 7 : 6,
                    inRow::fault);
        }
    }

    /** The tokens of a line that may be told, and by which kinds each may be: a word, n, -, ; and what is none. */
    private static void lines() {
        line("sheet 4 6 ;", "w", "n", "n", ";");
        line("table 3 4 5 ;", "w", "n", "n", "n", ";");
        line("wind 3 - 4 - 5 6 ;", "w", "n", "-n", "n", "-n", "n", "n;", ";");
        line("wind 3 4 5 ;", "w", "n", "-n", "-n", "n;");
        line("tower 9 ;", "w", "n", ";");
        line("window 9 1 2 ;", "w", "n", "n", "n", ";");
        line("known left 1 ;", "w", "w", "n", ";");
        String[] row = {"left", "1", ";", "nose", "1", ";"};
        for (int i = 1; i < row.length; i++) {
            String cut = String.join(" ", Arrays.copyOf(row, i));
            if (i != 3) {
                rowFault(cut, 1, cut.length());
                rowFault(cut + " \n ", 1, cut.length() + 3);
            }
        }
        Check.is("ROW of two, one line each", 2, () -> Check.row(new FoldTower(), String.join("\n", row)));
    }

    /** Each word of a TEXT letter by letter: with another one, with one less, with one more it can't stand. */
    private static void words() {
        String[] texts = {"sheet 4 6;", "table 3 4 5;", "wind 3 4 5;", "tower 9;", "window 9 1 2;", "known left 1;"};
        for (String text : texts) {
            otherLetters("", text.substring(0, text.indexOf(' ')), text.substring(text.indexOf(' ')));
        }
        for (String side : new String[] {"left", "right", "nose", "tail"}) {
            otherLetters("known ", side, " 1;");
            for (int i = 0; i < side.length(); i++) {
                rowFault(side.substring(0, i) + "q" + side.substring(i + 1) + " 1;", 1, 0);
                rowFault("left 1;" + side.substring(0, i) + side.substring(i + 1) + " 1;", 1, 7);
            }
        }
        schoolFault("windo 1 1 1;", 1, 0);
        schoolFault("left 1;", 1, 0);
        schoolFault("known known left 1;", 1, 6);
        schoolFault("known tower 1;", 1, 6);
        rowFault("sheet 1 1;", 1, 0);
    }

    private static void otherLetters(String before, String word, String behind) {
        for (int i = 0; i < word.length(); i++) {
            String start = before + word.substring(0, i);
            schoolFault(start + "q" + word.substring(i + 1) + behind, 1, before.length());
            schoolFault(start + word.substring(i + 1) + behind, 1, before.length());
            schoolFault(start + word.charAt(i) + word.substring(i) + behind, 1, before.length());
        }
        schoolFault(before + word + word.charAt(0) + behind, 1, before.length());
    }

    /** "1 a TOKEN that can't stand there, or is none (the text's length where it ends too soon)", at each place. */
    private static void line(String text, String... kinds) {
        schoolFault(text, 0, -1);
        boolean isTower = text.startsWith("tower");
        schoolFault(text + " tower 5 ;", isTower ? 3 : 0, isTower ? text.length() + 1 : -1);
        String[] tokens = text.split(" ");
        String before = "";
        for (int i = 0; i < tokens.length; i++) {
            if (i > 0) {
                schoolFault(before.trim(), 1, before.trim().length());
                schoolFault(before + " \n", 1, before.length() + 2);
            }
            for (String other : new String[] {"zz", "1", "-", ";", "!", "1111", "sheets"}) {
                String kind = other.charAt(0) == '1' ? "n" : other;
                if (!kinds[i].contains(kind)) {
                    schoolFault(before + other, 1, before.length());
                    schoolFault(before + other + " " + text, 1, before.length());
                }
            }
            before += tokens[i] + " ";
        }
        schoolFault(text + ";", 1, text.length());
        schoolFault(text + " 1", 1, text.length() + 1);
    }

    /** Each number just inside and just outside of what it may be, of 3 digits and of 4. */
    private static void ranges() {
        for (Range r : SCHOOL_RANGES) {
            for (int n = r.least; n <= r.most; n++) {
                schoolFault(r.with(Integer.toString(n)), 0, -1);
            }
            schoolFault(r.with(digits(r.least, 3)), 0, -1);
            schoolFault(r.with(digits(r.most, 3)), 0, -1);
            for (String wrong : outside(r)) {
                schoolFault(r.with(wrong), 2, r.place());
                // What stands behind the first FAULT tells none.
                schoolFault(r.with(wrong + " 1111 ! tower"), 2, r.place());
            }
        }
        for (Range r : ROW_RANGES) {
            for (String wrong : outside(r)) {
                rowFault(r.with(wrong), 2, r.place());
                rowFault("left 1;" + r.with(wrong), 2, 7 + r.place());
            }
            for (int n = 1; n <= 4; n++) {
                String text = r.with(Integer.toString(n));
                Check.is("ROW " + text, 1, () -> Check.row(Check.schooled("sheet 8 8;"), text));
            }
            String padded = r.with("004");
            Check.is("ROW " + padded, 1, () -> Check.row(Check.schooled("sheet 8 8;"), padded));
        }
    }

    private static String digits(int n, int length) {
        String plain = Integer.toString(n);
        return "0".repeat(length - plain.length()) + plain;
    }

    private static List<String> outside(Range r) {
        List<String> wrong = new ArrayList<>(
                List.of(Integer.toString(r.most + 1), "999", "1000", digits(r.most, 4), digits(r.least, 4)));
        if (r.least > 0) {
            wrong.addAll(List.of("0", "00", "000"));
        }
        return wrong;
    }

    /** "FAULTS, the first along the text, at a TOKEN's first byte, of one TOKEN the least". */
    private static void faults() {
        schoolFault("tower 0;sheet 9 9;", 2, 6);
        schoolFault("tower 1;tower x", 3, 8);
        schoolFault("tower 1;x tower", 1, 8);
        schoolFault("tower 201;tower 1;x", 2, 6);
        schoolFault("known left 5;known left 5;", 2, 11);
        schoolFault("known left 1;known left 01;known left 5;", 4, 24);
        schoolFault("known left 1;known left 1111;", 2, 24);
        schoolFault("known left 1;known left 1 ", 4, 24);
        schoolFault("table 1 1 1;table 1 21 1;", 3, 18);
        schoolFault("table 1 1 1;table 1111 1 1;", 2, 18);
        schoolFault("table 1 1 1;table 11 1 1;", 2, 18);
        schoolFault("wind 1 1 1;wind 1;", 3, 16);
        schoolFault("wind 1 1 1;wind 0001 1 1;", 2, 16);
        schoolFault("sheet 1 1;sheet", 3, 10);
        schoolFault("sheet 1 1;sheets", 1, 10);
        schoolFault("  \n tower  300 ; ", 2, 11);
        schoolFault("wind 1 -   6 1;", 2, 11);
        rowFault("left 1;nose 5;x", 2, 12);
        rowFault("left 1;x nose 5;", 1, 7);
        Check.is("FAULTS of a row: 1 and 2 alone", 2,
                () -> Check.row(Check.schooled("sheet 8 8;"), "left 1;left 1;"));
        // A fold that can't be is no FAULT.
        FoldTower t = new FoldTower();
        Check.is("FAULTS of a row: none by what can't be", 0, () -> Check.row(t, "left 4;"));
        Check.is("FAULTS of a row: no place by what can't be", -1, t::fault);
        Check.is("FAULTS of a row: STATUS 0 stays by what can't be", 0, () -> t.count(11));
    }

    /** "3 a second 'sheet', 'tower', 'window', a NOSINESS .. told already, a MINUTE ..; 4 a FOLD's NUMBER". */
    private static void toldTwice() {
        schoolFault("sheet 4 6;sheet 4 6;", 3, 10);
        schoolFault("tower 30;tower 30;", 3, 9);
        schoolFault("window 20 0 30;window 20 0 30;", 3, 15);
        schoolFault("sheet 4 6;tower 30;window 20 0 30;", 0, -1);
        for (int k = 0; k < 10; k++) {
            String table = "table " + k + " 1 1;";
            schoolFault(table + "table 5 1 1;wind " + k + " 1 1;tower 1;" + table, 3, k == 5 ? 18 : 49);
            schoolFault(table + "table " + (k + 1) % 10 + " 1 1;wind " + k + " 1 1;", 0, -1);
            String wind = "wind " + k + " 1 1;";
            schoolFault(wind + "wind 5 1 1;table " + k + " 1 1;tower 1;" + wind, 3, k == 5 ? 16 : 47);
            schoolFault(wind + "wind " + (k + 1) % 10 + " 1 1;table " + k + " 1 1;", 0, -1);
        }
        String[] sides = {"left", "right", "nose", "tail"};
        for (String side : sides) {
            for (int n = 1; n <= 4; n++) {
                String known = "known " + side + " " + n + ";";
                String other = "known " + side + " " + (n % 4 + 1) + ";";
                String across = "known " + (side.equals("left") ? "right " : "left ") + n + ";";
                schoolFault(known + other + across, 0, -1);
                String twice = known + other + across + known;
                schoolFault(twice, 4, twice.length() - 2);
                schoolFault(known + known.replace(" " + n, " 00" + n), 4, known.length() + known.length() - 2);
            }
        }
    }
}
