import java.util.Arrays;
import java.util.NoSuchElementException;

/** Sheets of cells folded by a row of folds, and how what is folded flies from a tower. */
public final class FoldTower {
    public static final int NONE = -1;

    private static final int LEFT = 0;
    private static final int RIGHT = 1;
    private static final int NOSE = 2;
    private static final int TAIL = 3;

    private static final int MOST_SIDE = 8;
    private static final int MOST_CELLS = MOST_SIDE * MOST_SIDE;
    // A fold takes a column or a row at least, and one of each is left.
    private static final int MOST_FOLDS = 2 * (MOST_SIDE - 1);
    private static final int MOST_FOLD_NUMBER = 4;

    private static final int MINUTES = 10;
    private static final int NOSINESSES = 10;
    private static final int MOST_KNOWN = 10;
    private static final int MOST_TRIM = 3;
    private static final int TRIMS = 2 * MOST_TRIM + 1;
    private static final int MOST_STEPS = 200;
    private static final int MOST_BYTES = 500;
    private static final int BYTES_FED = 20;
    private static final int MOST_ROW = 4;
    private static final int MOST_ROWS = 5000;
    private static final int MOST_TAUGHT = 12;

    private static final int CANNOT_STAND = 1;
    private static final int TOO_MUCH = 2;
    private static final int TOLD_TWICE = 3;
    private static final int KNOWN_ALREADY = 4;

    private static final int REFUSED_TEXTS = 0;
    private static final int REFUSED_FOLDS = 1;
    private static final int REFUSED_ROWS = 2;

    private static final int FARTHEST = 0;
    private static final int LONGEST = 1;
    private static final int THROUGH_WINDOW = 2;
    private static final int SAME_CREASES = 3;
    private static final int SAME_WEIGHTS = 4;

    private static final int NONE_THROUGH = -10000;
    private static final int BEST_SPENT = -20000;
    private static final int ROWS_SPENT = -2;
    private static final int TRIM_OF_FOUND = -2;

    private final Tape tape = new Tape();
    private final SchoolText schoolText = new SchoolText();
    private final RowText rowText = new RowText();
    private School school = new School();
    private School spareSchool = new School();
    private final Sheet sheet = new Sheet();
    private final State state = new State();
    private final State imageState = new State();
    private boolean hasImage;
    private final Flight flight = new Flight();
    private final Search search = new Search();
    private final Evening latestEvening = new Evening();
    private final Lessons lessons = new Lessons();
    private int faultPlace = NONE;

    public FoldTower() {
        sheet.layPlain(school.width, school.length);
    }

    public int feed(int a, int b, int c, int d, int e) {
        if (tape.size > MOST_BYTES - BYTES_FED) {
            return NONE;
        }
        tape.put(a);
        tape.put(b);
        tape.put(c);
        tape.put(d);
        tape.put(e);
        return tape.size;
    }

    public int school(int n) throws IllegalArgumentException {
        checkTape(n);
        tape.open(n);
        schoolText.read(tape, spareSchool);
        if (closeText() != 0) {
            return tape.faultKind;
        }
        School told = spareSchool;
        spareSchool = school;
        school = told;
        state.clearButRefused();
        search.forget();
        latestEvening.forget();
        hasImage = false;
        layAnew();
        return 0;
    }

    public int row(int n) throws IllegalArgumentException {
        checkTape(n);
        tape.open(n);
        rowText.read(tape);
        if (closeText() != 0) {
            return NONE - tape.faultKind;
        }
        int done = 0;
        while (done < rowText.folds && foldNow(rowText.sideOf(done), rowText.numberOf(done))) {
            done++;
        }
        return done;
    }

    public int fault() {
        return faultPlace;
    }

    public int count(int what) throws NoSuchElementException {
        switch (what) {
            case 0: return school.width;
            case 1: return school.length;
            case 2: return sheet.columns;
            case 3: return sheet.lines;
            case 4: return state.folds;
            case 5: return sheet.countCreases();
            case 6: return sheet.nosiness();
            case 7: return sheet.wings();
            case 8: return school.knownFolds;
            case 9: return state.rowsToTeach;
            case 10: return tape.size;
            case 11: return state.refused[REFUSED_TEXTS];
            case 12: return state.refused[REFUSED_FOLDS];
            case 13: return state.refused[REFUSED_ROWS];
            default: throw new NoSuchElementException();
        }
    }

    public int table(int k, int what) throws NoSuchElementException {
        if (k < 0 || k >= NOSINESSES) {
            throw new NoSuchElementException();
        }
        switch (what) {
            case 0: return school.forward[k];
            case 1: return school.sink[k];
            case 2: return school.push[k];
            case 3: return school.lift[k];
            case 4: return school.weight[k];
            default: throw new NoSuchElementException();
        }
    }

    public int fold(int side, int n) throws NoSuchElementException {
        if (side < LEFT || side > TAIL) {
            throw new NoSuchElementException();
        }
        return foldNow(side, n) ? state.folds : NONE;
    }

    public int undo() {
        if (state.folds < 1) {
            return NONE;
        }
        state.folds--;
        layAnew();
        return state.folds;
    }

    public int layer(int x, int y, int i) throws NoSuchElementException {
        if (!sheet.hasPlace(x, y)) {
            throw new NoSuchElementException();
        }
        if (i == NONE) {
            return sheet.weightAt(x, y);
        }
        int cell = sheet.cellAt(x, y, i);
        if (cell < 0 || cell >= MOST_CELLS) {
            throw new NoSuchElementException();
        }
        return cell + 100 * sheet.backUp[cell];
    }

    public int crease(int x, int y, boolean down) throws NoSuchElementException {
        int lastX = school.width - (down ? 1 : 2);
        int lastY = school.length - (down ? 2 : 1);
        if (x < 0 || x > lastX || y < 0 || y > lastY) {
            throw new NoSuchElementException();
        }
        return sheet.creaseOf(x, y, down);
    }

    public int flight(int minute, int trim, boolean wet, int what)
            throws NoSuchElementException, IllegalArgumentException {
        if (what < 0 || what > 3) {
            throw new NoSuchElementException();
        }
        checkThrow(minute, trim);
        flight.prepare(school, sheet.nosiness(), sheet.wings());
        flight.fly(minute, trim, wet, MOST_STEPS);
        switch (what) {
            case 0: return flight.far;
            case 1: return flight.steps;
            case 2: return flight.aside;
            default: return flight.through ? 1 : 0;
        }
    }

    public int step(int minute, int trim, boolean wet, int steps, int what)
            throws NoSuchElementException, IllegalArgumentException {
        if (what < 0 || what > 2) {
            throw new NoSuchElementException();
        }
        checkThrow(minute, trim);
        if (steps < 0 || steps > MOST_STEPS) {
            throw new NoSuchElementException();
        }
        flight.prepare(school, sheet.nosiness(), sheet.wings());
        flight.fly(minute, trim, wet, steps);
        if (flight.steps < steps) {
            throw new NoSuchElementException();
        }
        switch (what) {
            case 0: return flight.far;
            case 1: return flight.height;
            default: return flight.direction;
        }
    }

    public int best(int what, int l, int minute) throws NoSuchElementException, IllegalArgumentException {
        if (what < FARTHEST || what > THROUGH_WINDOW) {
            throw new NoSuchElementException();
        }
        checkRowLength(l);
        checkMinute(minute);
        search.begin(school, sheet, what, minute);
        search.meetAll(l);
        if (search.isSpent()) {
            return BEST_SPENT;
        }
        if (search.hits == 0) {
            return NONE_THROUGH;
        }
        search.keepFirst();
        return search.firstValue;
    }

    public int found(int i) throws NoSuchElementException {
        if (search.keptLength == NONE) {
            throw new NoSuchElementException();
        }
        if (i == NONE) {
            return search.keptLength;
        }
        if (i == TRIM_OF_FOUND) {
            return search.keptTrim;
        }
        if (i < 0 || i >= search.keptLength || i >= MOST_ROW) {
            throw new NoSuchElementException();
        }
        return search.kept[i];
    }

    public int mean(int trim, int what) throws NoSuchElementException, IllegalArgumentException {
        if (what < 0 || what > 1) {
            throw new NoSuchElementException();
        }
        checkTrim(trim);
        flight.prepare(school, sheet.nosiness(), sheet.wings());
        int upper = 0;
        int lower = 0;
        for (int minute = 0; minute < MINUTES; minute++) {
            flight.fly(minute, trim, false, MOST_STEPS);
            upper += flight.far * school.weight[minute];
            lower += school.weight[minute];
        }
        if (lower < 1) {
            return what;
        }
        int divisor = commonDivisor(Math.abs(upper), lower);
        return divisor < 1 ? what : (what == 0 ? upper : lower) / divisor;
    }

    public int rows(int l, boolean alike) throws IllegalArgumentException {
        checkRowLength(l);
        search.begin(school, sheet, alike ? SAME_WEIGHTS : SAME_CREASES, 0);
        search.meetAll(l);
        if (search.isSpent()) {
            return ROWS_SPENT;
        }
        if (search.hits > 0) {
            search.keepFirst();
        }
        return search.hits;
    }

    public int evening(int minutes) throws IllegalArgumentException {
        int throwsInAll = Integer.bitCount(minutes);
        if (minutes < 1 || minutes >= 1 << MINUTES || throwsInAll > TRIMS) {
            throw new IllegalArgumentException();
        }
        flight.prepare(school, sheet.nosiness(), sheet.wings());
        return latestEvening.choose(flight, minutes);
    }

    public int trim(int minute) throws NoSuchElementException {
        if (minute < 0 || minute >= MINUTES || !latestEvening.thrown[minute]) {
            throw new NoSuchElementException();
        }
        return latestEvening.trims[minute];
    }

    public int teach(int a, int b, int c, int d) {
        int length = lessons.lengthAsTold(a, b, c, d, school.knownFolds);
        if (length < 1 || state.rowsToTeach >= MOST_TAUGHT) {
            state.refused[REFUSED_ROWS]++;
            return NONE;
        }
        state.addRow(a, b, c, d, length);
        return state.rowsToTeach;
    }

    public int taught(int i) throws NoSuchElementException {
        lessons.arrange(state);
        if (i == NONE) {
            return lessons.taughtRows;
        }
        if (i < 0 || i >= lessons.taughtRows || i >= MOST_TAUGHT) {
            throw new NoSuchElementException();
        }
        return lessons.order[i];
    }

    public void image() {
        imageState.copyFrom(state);
        hasImage = true;
    }

    public boolean restore() {
        if (!hasImage) {
            return false;
        }
        state.copyFrom(imageState);
        layAnew();
        return true;
    }

    private void checkTape(int n) {
        if (n < 0 || n > tape.size) {
            throw new IllegalArgumentException();
        }
    }

    private static void checkMinute(int minute) {
        if (minute < 0 || minute >= MINUTES) {
            throw new IllegalArgumentException();
        }
    }

    private static void checkTrim(int trim) {
        if (trim < -MOST_TRIM || trim > MOST_TRIM) {
            throw new IllegalArgumentException();
        }
    }

    private static void checkThrow(int minute, int trim) {
        checkMinute(minute);
        checkTrim(trim);
    }

    private static void checkRowLength(int l) {
        if (l < 0 || l > MOST_ROW) {
            throw new IllegalArgumentException();
        }
    }

    /** Ends the reading of a text, whatever it was: the fault's kind, 0 without. */
    private int closeText() {
        tape.size = 0;
        faultPlace = tape.faultPlace;
        if (tape.faultKind != 0) {
            state.refused[REFUSED_TEXTS]++;
        }
        return tape.faultKind;
    }

    private boolean foldNow(int side, int n) {
        if (state.folds >= MOST_FOLDS || !sheet.turnOver(side, n)) {
            state.refused[REFUSED_FOLDS]++;
            return false;
        }
        state.addFold(side, n);
        return true;
    }

    /** Lays the sheet plain and does again all folds that the state tells. */
    private void layAnew() {
        sheet.layPlain(school.width, school.length);
        for (int i = 0; i < state.folds && i < MOST_FOLDS; i++) {
            sheet.turnOver(state.foldSide[i], state.foldNumber[i]);
        }
    }

    private static int commonDivisor(int a, int b) {
        int large = a;
        int small = b;
        // The smaller one falls with each turn; of two ints that takes fewer than 50.
        for (int i = 0; i < 50 && small > 0; i++) {
            int rest = large % small;
            large = small;
            small = rest;
        }
        return large;
    }

    /** What a school tells, and what goes without. */
    private static final class School {
        int width;
        int length;
        int tower;
        int windowFar;
        int windowLow;
        int windowHigh;
        int knownFolds;
        final int[] forward = new int[NOSINESSES];
        final int[] sink = new int[NOSINESSES];
        final int[] push = new int[MINUTES];
        final int[] lift = new int[MINUTES];
        final int[] weight = new int[MINUTES];
        final int[] knownSide = new int[MOST_KNOWN];
        final int[] knownNumber = new int[MOST_KNOWN];

        School() {
            setUntold();
            knowUsualFolds();
        }

        /** All as without, but for the folds that are known: none yet. */
        void setUntold() {
            width = 4;
            length = 6;
            tower = 30;
            windowFar = 20;
            windowLow = 0;
            windowHigh = 30;
            knownFolds = 0;
            for (int k = 0; k < NOSINESSES; k++) {
                forward[k] = k;
                sink[k] = 1 + Math.abs(k - 6);
            }
            Arrays.fill(push, 0);
            Arrays.fill(lift, 0);
            Arrays.fill(weight, 1);
        }

        void knowUsualFolds() {
            for (int side = LEFT; side <= TAIL; side++) {
                addKnown(side, 1);
                addKnown(side, 2);
            }
        }

        void addKnown(int side, int number) {
            if (knownFolds < 0 || knownFolds >= MOST_KNOWN) {
                return;
            }
            knownSide[knownFolds] = side;
            knownNumber[knownFolds] = number;
            knownFolds++;
        }

        boolean isKnown(int side, int number) {
            for (int i = 0; i < knownFolds && i < MOST_KNOWN; i++) {
                if (knownSide[i] == side && knownNumber[i] == number) {
                    return true;
                }
            }
            return false;
        }
    }

    /** The tape's bytes, and the tokens of a text of it, with the first fault that is met. */
    private static final class Tape {
        private static final int END = 0;
        private static final int WORD = 1;
        private static final int NUMBER = 2;
        private static final int SEMICOLON = 3;
        private static final int MINUS = 4;
        private static final int NO_TOKEN = 5;
        private static final int MOST_DIGITS = 3;
        // More than any number may be.
        private static final int TOO_LONG = 1000;

        int size;
        int faultKind;
        int faultPlace = NONE;
        private final char[] bytes = new char[MOST_BYTES];
        private int textEnd;
        private int kind;
        private int start;
        private int stop;
        private int value;

        void put(int number) {
            for (int shift = 24; shift >= 0 && size < MOST_BYTES; shift -= 8) {
                bytes[size] = (char) ((number >>> shift) & 255);
                size++;
            }
        }

        /** Begins the text of the first n bytes. */
        void open(int n) {
            textEnd = Math.max(0, Math.min(n, size));
            faultKind = 0;
            faultPlace = NONE;
            stop = 0;
            advance();
        }

        boolean goesOn() {
            return faultKind == 0 && kind != END;
        }

        /** A fault of the token here; what is read behind the first one counts no more. */
        void refuse(int fault) {
            if (faultKind == 0) {
                faultKind = fault;
                faultPlace = start;
            }
        }

        void advance() {
            start = stop;
            while (start < textEnd && isBlank(bytes[start])) {
                start++;
            }
            stop = start;
            if (start >= textEnd) {
                kind = END;
                return;
            }
            kind = kindBeginning(bytes[start]);
            stop++;
            boolean ofMany = kind == WORD || kind == NUMBER;
            while (ofMany && stop < textEnd && kindBeginning(bytes[stop]) == kind) {
                stop++;
            }
            if (kind == NUMBER) {
                readValue();
            }
        }

        private void readValue() {
            value = stop - start > MOST_DIGITS ? TOO_LONG : 0;
            for (int i = start; i < stop && i < textEnd && value < TOO_LONG; i++) {
                value = 10 * value + bytes[i] - '0';
            }
        }

        private static int kindBeginning(char c) {
            if (c >= 'a' && c <= 'z') {
                return WORD;
            }
            if (c >= '0' && c <= '9') {
                return NUMBER;
            }
            return c == ';' ? SEMICOLON : c == '-' ? MINUS : NO_TOKEN;
        }

        private static boolean isBlank(char c) {
            return c == 32 || c == 10;
        }

        boolean isWord(String word) {
            if (kind != WORD || stop - start != word.length()) {
                return false;
            }
            for (int i = 0; i < word.length() && start + i < textEnd; i++) {
                if (bytes[start + i] != word.charAt(i)) {
                    return false;
                }
            }
            return true;
        }

        boolean isNumber() {
            return kind == NUMBER;
        }

        /** The number here, looked at alone: at a fault the least one. */
        int numberHere(int least, int most) {
            if (kind != NUMBER) {
                refuse(CANNOT_STAND);
                return least;
            }
            if (value < least || value > most) {
                refuse(TOO_MUCH);
                return least;
            }
            return value;
        }

        int takeNumber(int least, int most) {
            int number = numberHere(least, most);
            advance();
            return number;
        }

        int takeSigned(int most) {
            boolean below = kind == MINUS;
            if (below) {
                advance();
            }
            int number = numberHere(0, most);
            advance();
            return below ? -number : number;
        }

        int takeSide() {
            int side = isWord("left") ? LEFT : isWord("right") ? RIGHT
                    : isWord("nose") ? NOSE : isWord("tail") ? TAIL : NONE;
            if (side == NONE) {
                refuse(CANNOT_STAND);
                return LEFT;
            }
            advance();
            return side;
        }

        void takeSemicolon() {
            if (kind != SEMICOLON) {
                refuse(CANNOT_STAND);
            }
            advance();
        }
    }

    /** Reads a school; what has a fault may leave a school half told behind. */
    private static final class SchoolText {
        private boolean sheetTold;
        private boolean towerTold;
        private boolean windowTold;
        private final boolean[] tableTold = new boolean[NOSINESSES];
        private final boolean[] windTold = new boolean[MINUTES];

        void read(Tape tape, School school) {
            sheetTold = false;
            towerTold = false;
            windowTold = false;
            for (int i = 0; i < tableTold.length; i++) {
                tableTold[i] = false;
            }
            for (int i = 0; i < windTold.length; i++) {
                windTold[i] = false;
            }
            school.setUntold();
            for (int lines = 0; lines < MOST_BYTES && tape.goesOn(); lines++) {
                readLine(tape, school);
            }
            if (school.knownFolds == 0) {
                school.knowUsualFolds();
            }
        }

        private void readLine(Tape tape, School school) {
            if (tape.isWord("sheet")) {
                readSheet(tape, school);
            } else if (tape.isWord("table")) {
                readTable(tape, school);
            } else if (tape.isWord("wind")) {
                readWind(tape, school);
            } else if (tape.isWord("tower")) {
                readTower(tape, school);
            } else if (tape.isWord("window")) {
                readWindow(tape, school);
            } else if (tape.isWord("known")) {
                readKnown(tape, school);
            } else {
                tape.refuse(CANNOT_STAND);
            }
            tape.takeSemicolon();
        }

        private void readSheet(Tape tape, School school) {
            if (sheetTold) {
                tape.refuse(TOLD_TWICE);
            }
            sheetTold = true;
            tape.advance();
            school.width = tape.takeNumber(1, MOST_SIDE);
            school.length = tape.takeNumber(1, MOST_SIDE);
        }

        private void readTable(Tape tape, School school) {
            tape.advance();
            int k = takeUntold(tape, tableTold);
            int forward = tape.takeNumber(0, 20);
            int sink = tape.takeNumber(0, 20);
            if (k >= 0 && k < NOSINESSES) {
                school.forward[k] = forward;
                school.sink[k] = sink;
            }
        }

        private void readWind(Tape tape, School school) {
            tape.advance();
            int minute = takeUntold(tape, windTold);
            int push = tape.takeSigned(5);
            int lift = tape.takeSigned(5);
            int weight = tape.isNumber() ? tape.takeNumber(0, 99) : 1;
            if (minute >= 0 && minute < MINUTES) {
                school.push[minute] = push;
                school.lift[minute] = lift;
                school.weight[minute] = weight;
            }
        }

        /** The number of a nosiness or a minute, which may be told but once. */
        private static int takeUntold(Tape tape, boolean[] told) {
            int k = tape.numberHere(0, 9);
            if (k < 0 || k >= told.length) {
                return NONE;
            }
            if (told[k]) {
                tape.refuse(TOLD_TWICE);
            }
            told[k] = true;
            tape.advance();
            return k;
        }

        private void readTower(Tape tape, School school) {
            if (towerTold) {
                tape.refuse(TOLD_TWICE);
            }
            towerTold = true;
            tape.advance();
            school.tower = tape.takeNumber(1, 200);
        }

        private void readWindow(Tape tape, School school) {
            if (windowTold) {
                tape.refuse(TOLD_TWICE);
            }
            windowTold = true;
            tape.advance();
            school.windowFar = tape.takeNumber(1, 200);
            school.windowLow = tape.takeNumber(0, 200);
            // That the lower end is above the upper one is seen at the upper one first.
            school.windowHigh = tape.takeNumber(school.windowLow, 200);
        }

        private void readKnown(Tape tape, School school) {
            if (school.knownFolds >= MOST_KNOWN) {
                tape.refuse(TOO_MUCH);
            }
            tape.advance();
            int side = tape.takeSide();
            int number = tape.numberHere(1, MOST_FOLD_NUMBER);
            if (school.isKnown(side, number)) {
                tape.refuse(KNOWN_ALREADY);
            }
            tape.advance();
            school.addKnown(side, number);
        }
    }

    /** Reads a row of folds. */
    private static final class RowText {
        int folds;
        private final int[] side = new int[MOST_BYTES];
        private final int[] number = new int[MOST_BYTES];

        void read(Tape tape) {
            folds = 0;
            while (folds < MOST_BYTES && tape.goesOn()) {
                side[folds] = tape.takeSide();
                number[folds] = tape.takeNumber(1, MOST_FOLD_NUMBER);
                tape.takeSemicolon();
                folds++;
            }
        }

        int sideOf(int i) {
            return i >= 0 && i < MOST_BYTES ? side[i] : NONE;
        }

        int numberOf(int i) {
            return i >= 0 && i < MOST_BYTES ? number[i] : 0;
        }
    }

    /** How the cells of a sheet lie, and its creases. A cell's number is width by y, and x. */
    private static final class Sheet {
        int width;
        int length;
        int columns;
        int lines;
        private int folds;
        // 1, where the back of a cell is up.
        final int[] backUp = new int[MOST_CELLS];
        private final int[] column = new int[MOST_CELLS];
        private final int[] line = new int[MOST_CELLS];
        private final int[] level = new int[MOST_CELLS];
        private final int[] creaseBeside = new int[MOST_CELLS];
        private final int[] creaseBelow = new int[MOST_CELLS];
        // By place, MOST_SIDE by y, and x; 0 where there is none.
        private final int[] weight = new int[MOST_CELLS];
        private final boolean[] moving = new boolean[MOST_CELLS];

        void layPlain(int newWidth, int newLength) {
            width = Math.max(1, Math.min(newWidth, MOST_SIDE));
            length = Math.max(1, Math.min(newLength, MOST_SIDE));
            columns = width;
            lines = length;
            folds = 0;
            int cell = 0;
            for (int y = 0; y < length; y++) {
                for (int x = 0; x < width && cell < MOST_CELLS; x++) {
                    column[cell] = x;
                    line[cell] = y;
                    cell++;
                }
            }
            Arrays.fill(level, 0);
            Arrays.fill(backUp, 0);
            Arrays.fill(creaseBeside, 0);
            Arrays.fill(creaseBelow, 0);
            weigh();
        }

        void copyFrom(Sheet other) {
            width = other.width;
            length = other.length;
            columns = other.columns;
            lines = other.lines;
            folds = other.folds;
            System.arraycopy(other.backUp, 0, backUp, 0, MOST_CELLS);
            System.arraycopy(other.column, 0, column, 0, MOST_CELLS);
            System.arraycopy(other.line, 0, line, 0, MOST_CELLS);
            System.arraycopy(other.level, 0, level, 0, MOST_CELLS);
            System.arraycopy(other.creaseBeside, 0, creaseBeside, 0, MOST_CELLS);
            System.arraycopy(other.creaseBelow, 0, creaseBelow, 0, MOST_CELLS);
            System.arraycopy(other.weight, 0, weight, 0, MOST_CELLS);
        }

        boolean canTurn(int side, int n) {
            int across = side == LEFT || side == RIGHT ? columns : lines;
            return n >= 1 && n <= across / 2;
        }

        /** A fold: false, and nothing is done, where it can't be. */
        boolean turnOver(int side, int n) {
            if (!canTurn(side, n)) {
                return false;
            }
            boolean upright = side == LEFT || side == RIGHT;
            boolean fromFirst = side == LEFT || side == NOSE;
            int across = upright ? columns : lines;
            // The first column or row that lies behind the line of the fold.
            int edge = fromFirst ? n : across - n;
            markMoving(upright ? column : line, edge, fromFirst);
            addCreases();
            turnCells(upright, edge);
            if (fromFirst) {
                numberFrom(upright ? column : line, n);
            }
            columns -= upright ? n : 0;
            lines -= upright ? 0 : n;
            folds++;
            weigh();
            return true;
        }

        private int cells() {
            return Math.min(width * length, MOST_CELLS);
        }

        private void markMoving(int[] where, int edge, boolean fromFirst) {
            int cells = cells();
            for (int cell = 0; cell < cells && cell < where.length; cell++) {
                moving[cell] = (where[cell] < edge) == fromFirst;
            }
        }

        /**
         * Cells that are neighbours on the sheet lie side by side till a crease comes between
         * them, and in one place then, so where one moves and one not there is no crease yet.
         */
        private void addCreases() {
            int cells = cells();
            int cell = 0;
            for (int y = 0; y < length; y++) {
                for (int x = 0; x < width && cell < cells; x++) {
                    int below = cell + width;
                    if (x + 1 < width && cell + 1 < cells && moving[cell] != moving[cell + 1]) {
                        creaseBeside[cell] = newCrease(cell, cell + 1);
                    }
                    if (below < cells && moving[cell] != moving[below]) {
                        creaseBelow[cell] = newCrease(cell, below);
                    }
                    cell++;
                }
            }
        }

        private int newCrease(int one, int other) {
            return 10 * folds + (backUp[one] + backUp[other] == 0 ? 1 : 2);
        }

        /** Puts the moving cells, turned and in turned order, above what lies across the edge. */
        private void turnCells(boolean upright, int edge) {
            int cells = cells();
            for (int cell = 0; cell < cells; cell++) {
                if (!moving[cell]) {
                    continue;
                }
                int under = weightAt(column[cell], line[cell]) - 1 - level[cell];
                if (upright) {
                    column[cell] = 2 * edge - 1 - column[cell];
                } else {
                    line[cell] = 2 * edge - 1 - line[cell];
                }
                level[cell] = weightAt(column[cell], line[cell]) + under;
                backUp[cell] = 1 - backUp[cell];
            }
        }

        private void numberFrom(int[] where, int n) {
            int cells = cells();
            for (int cell = 0; cell < cells && cell < where.length; cell++) {
                where[cell] -= n;
            }
        }

        private void weigh() {
            Arrays.fill(weight, 0);
            int cells = cells();
            for (int cell = 0; cell < cells; cell++) {
                if (hasPlace(column[cell], line[cell])) {
                    weight[MOST_SIDE * line[cell] + column[cell]]++;
                }
            }
        }

        boolean hasPlace(int x, int y) {
            return x >= 0 && x < columns && x < MOST_SIDE && y >= 0 && y < lines && y < MOST_SIDE;
        }

        int weightAt(int x, int y) {
            boolean stands = x >= 0 && x < MOST_SIDE && y >= 0 && y < MOST_SIDE;
            return stands ? weight[MOST_SIDE * y + x] : 0;
        }

        /** The cell that is the i-th layer of a place, or NONE. */
        int cellAt(int x, int y, int i) {
            int cells = cells();
            for (int cell = 0; cell < cells; cell++) {
                if (column[cell] == x && line[cell] == y && level[cell] == i) {
                    return cell;
                }
            }
            return NONE;
        }

        int creaseOf(int x, int y, boolean down) {
            int cell = width * y + x;
            if (cell < 0 || cell >= MOST_CELLS) {
                return 0;
            }
            return down ? creaseBelow[cell] : creaseBeside[cell];
        }

        int countCreases() {
            int creases = 0;
            int cells = cells();
            for (int cell = 0; cell < cells; cell++) {
                creases += (creaseBeside[cell] != 0 ? 1 : 0) + (creaseBelow[cell] != 0 ? 1 : 0);
            }
            return creases;
        }

        int nosiness() {
            int divisor = cells() * (lines - 1);
            if (divisor < 1) {
                return 0;
            }
            int sum = 0;
            for (int y = 0; y < lines; y++) {
                for (int x = 0; x < columns; x++) {
                    sum += weightAt(x, y) * y;
                }
            }
            return 9 - 9 * sum / divisor;
        }

        int wings() {
            int wings = 0;
            for (int x = 0; x < columns; x++) {
                int side = Integer.compare(2 * x + 1, columns);
                for (int y = 0; y < lines; y++) {
                    wings += side * weightAt(x, y);
                }
            }
            return wings;
        }

        boolean hasCreasesOf(Sheet other) {
            for (int cell = 0; cell < MOST_CELLS; cell++) {
                if (creaseBeside[cell] % 10 != other.creaseBeside[cell] % 10
                        || creaseBelow[cell] % 10 != other.creaseBelow[cell] % 10) {
                    return false;
                }
            }
            return true;
        }

        boolean hasWeightsOf(Sheet other) {
            if (columns != other.columns || lines != other.lines) {
                return false;
            }
            for (int place = 0; place < MOST_CELLS; place++) {
                if (weight[place] != other.weight[place]) {
                    return false;
                }
            }
            return true;
        }
    }

    /** What an image keeps: the folds done, the rows to be taught, how much was refused. */
    private static final class State {
        int folds;
        int rowsToTeach;
        final int[] foldSide = new int[MOST_FOLDS];
        final int[] foldNumber = new int[MOST_FOLDS];
        final int[] refused = new int[3];
        private final int[] rowLength = new int[MOST_TAUGHT];
        private final int[] rowFolds = new int[MOST_TAUGHT * MOST_ROW];

        void clearButRefused() {
            folds = 0;
            rowsToTeach = 0;
        }

        void copyFrom(State other) {
            folds = other.folds;
            rowsToTeach = other.rowsToTeach;
            System.arraycopy(other.foldSide, 0, foldSide, 0, MOST_FOLDS);
            System.arraycopy(other.foldNumber, 0, foldNumber, 0, MOST_FOLDS);
            System.arraycopy(other.refused, 0, refused, 0, 3);
            System.arraycopy(other.rowLength, 0, rowLength, 0, MOST_TAUGHT);
            System.arraycopy(other.rowFolds, 0, rowFolds, 0, MOST_TAUGHT * MOST_ROW);
        }

        void addFold(int side, int number) {
            if (folds < 0 || folds >= MOST_FOLDS) {
                return;
            }
            foldSide[folds] = side;
            foldNumber[folds] = number;
            folds++;
        }

        void addRow(int a, int b, int c, int d, int length) {
            if (rowsToTeach < 0 || rowsToTeach >= MOST_TAUGHT) {
                return;
            }
            int at = MOST_ROW * rowsToTeach;
            rowFolds[at] = a;
            rowFolds[at + 1] = b;
            rowFolds[at + 2] = c;
            rowFolds[at + 3] = d;
            rowLength[rowsToTeach] = length;
            rowsToTeach++;
        }

        int lengthOfRow(int row) {
            return row >= 0 && row < MOST_TAUGHT ? rowLength[row] : 0;
        }

        int foldOfRow(int row, int i) {
            boolean stands = row >= 0 && row < MOST_TAUGHT && i >= 0 && i < MOST_ROW;
            return stands ? rowFolds[MOST_ROW * row + i] : NONE;
        }
    }

    /** One flight, step by step. */
    private static final class Flight {
        // A turn's number is 1 to 8 to the right, -1 to -8 to the left, 0 for none.
        private static final int MOST_TURN = 8;
        static final int KINDS = NOSINESSES * (2 * MOST_TURN + 1);

        int far;
        int aside;
        int height;
        int direction;
        int steps;
        boolean through;
        private School school = new School();
        private int nosiness;
        private int turn;

        void prepare(School ofSchool, int withNosiness, int wings) {
            school = ofSchool;
            nosiness = Math.max(0, Math.min(withNosiness, NOSINESSES - 1));
            int uneven = Math.abs(wings);
            int every = uneven < 1 ? 0 : Math.max(1, MOST_TURN / uneven);
            turn = wings < 0 ? -every : every;
        }

        /** What is of one kind flies alike, by any throw. */
        int kindNumber() {
            return nosiness * (2 * MOST_TURN + 1) + turn + MOST_TURN;
        }

        void fly(int minute, int trim, boolean wet, int mostSteps) {
            far = 0;
            aside = 0;
            height = school.tower;
            direction = 0;
            steps = 0;
            through = false;
            while (steps < mostSteps && height > 0) {
                int windMinute = Math.floorMod(minute + steps, MINUTES);
                int pace = paceIn(windMinute, trim);
                boolean comesToWindow = direction == 0 && aside == 0
                        && far < school.windowFar && far + pace >= school.windowFar;
                move(pace);
                height -= sinkIn(windMinute, trim, wet);
                if (comesToWindow && height >= school.windowLow && height <= school.windowHigh) {
                    through = true;
                }
                steps++;
                turnBehindStep();
            }
        }

        private int paceIn(int windMinute, int trim) {
            if (windMinute < 0 || windMinute >= MINUTES || nosiness < 0 || nosiness >= NOSINESSES) {
                return 0;
            }
            return Math.max(0, school.forward[nosiness] - Math.abs(trim) + school.push[windMinute]);
        }

        private int sinkIn(int windMinute, int trim, boolean wet) {
            if (windMinute < 0 || windMinute >= MINUTES || nosiness < 0 || nosiness >= NOSINESSES) {
                return 0;
            }
            return Math.max(0, school.sink[nosiness] - trim - school.lift[windMinute] + (wet ? 1 : 0));
        }

        private void move(int pace) {
            switch (direction) {
                case 0: far += pace; break;
                case 1: aside += pace; break;
                case 2: far -= pace; break;
                default: aside -= pace; break;
            }
        }

        private void turnBehindStep() {
            if (turn != 0 && steps % turn == 0) {
                direction = (direction + (turn > 0 ? 1 : 3)) & 3;
            }
        }
    }

    /** All rows of known folds that can be, the shortest first, then as rows of numbers. */
    private static final class Search {
        int hits;
        int firstValue;
        int keptLength = NONE;
        int keptTrim;
        final int[] kept = new int[MOST_ROW];
        private int firstLength;
        private int firstTrim;
        private final int[] first = new int[MOST_ROW];
        private final int[] row = new int[MOST_ROW];
        private final Sheet[] sheets = new Sheet[MOST_ROW + 1];
        private final boolean[] flown = new boolean[Flight.KINDS];
        private final Flight flight = new Flight();
        private School school = new School();
        private Sheet now = new Sheet();
        private int aim;
        private int minute;
        private int rowsMet;

        Search() {
            for (int i = 0; i <= MOST_ROW; i++) {
                sheets[i] = new Sheet();
            }
        }

        void begin(School ofSchool, Sheet asNow, int newAim, int inMinute) {
            school = ofSchool;
            now = asNow;
            aim = newAim;
            minute = inMinute;
            hits = 0;
            rowsMet = 0;
            for (int i = 0; i < flown.length; i++) {
                flown[i] = false;
            }
        }

        boolean isSpent() {
            return rowsMet > MOST_ROWS;
        }

        void forget() {
            keptLength = NONE;
        }

        void keepFirst() {
            System.arraycopy(first, 0, kept, 0, MOST_ROW);
            keptLength = firstLength;
            keptTrim = firstTrim;
        }

        void meetAll(int longest) {
            Sheet plain = sheets[0];
            if (plain == null) {
                return;
            }
            plain.layPlain(school.width, school.length);
            for (int length = 0; length <= longest && length <= MOST_ROW; length++) {
                extend(this, 0, length);
            }
        }

        /** Meets all rows of a length whose first folds are those that are done already. */
        private static void extend(Search search, int done, int length) {
            if (done < 0 || done > MOST_ROW || done > length) {
                return;
            }
            Sheet here = search.sheets[done];
            if (here == null) {
                return;
            }
            if (done == length) {
                search.meet(here, length);
                return;
            }
            for (int k = 0; k < search.school.knownFolds && !search.isSpent(); k++) {
                if (search.putFold(here, done, k)) {
                    extend(search, done + 1, length);
                }
            }
        }

        private boolean putFold(Sheet here, int done, int k) {
            if (done < 0 || done >= MOST_ROW || k < 0 || k >= MOST_KNOWN) {
                return false;
            }
            Sheet after = sheets[done + 1];
            if (after == null || !here.canTurn(school.knownSide[k], school.knownNumber[k])) {
                return false;
            }
            row[done] = k;
            after.copyFrom(here);
            return after.turnOver(school.knownSide[k], school.knownNumber[k]);
        }

        private void meet(Sheet sheet, int length) {
            rowsMet++;
            if (isSpent()) {
                return;
            }
            if (aim == SAME_CREASES || aim == SAME_WEIGHTS) {
                compare(sheet, length);
            } else {
                throwByEachTrim(sheet, length);
            }
        }

        private void compare(Sheet sheet, int length) {
            boolean same = aim == SAME_CREASES ? sheet.hasCreasesOf(now) : sheet.hasWeightsOf(now);
            if (same) {
                hit(length, 0, 0);
            }
        }

        private void throwByEachTrim(Sheet sheet, int length) {
            flight.prepare(school, sheet.nosiness(), sheet.wings());
            int kind = flight.kindNumber();
            // What flies like an earlier row is never better than that.
            if (kind < 0 || kind >= Flight.KINDS || flown[kind]) {
                return;
            }
            flown[kind] = true;
            for (int trim = -MOST_TRIM; trim <= MOST_TRIM; trim++) {
                flight.fly(minute, trim, false, MOST_STEPS);
                if (aim != THROUGH_WINDOW || flight.through) {
                    hit(length, trim, aim == LONGEST ? flight.steps : flight.far);
                }
            }
        }

        private void hit(int length, int trim, int value) {
            if (hits == 0 || value > firstValue) {
                System.arraycopy(row, 0, first, 0, MOST_ROW);
                firstLength = length;
                firstTrim = trim;
                firstValue = value;
            }
            hits++;
        }
    }

    /** Which trim in which minute. */
    private static final class Evening {
        final boolean[] thrown = new boolean[MINUTES];
        final int[] trims = new int[MINUTES];
        private final int[] minutes = new int[TRIMS];
        private int minutesInAll;
        private final int[][] far = new int[TRIMS][TRIMS];
        // By the trims that the earlier minutes used, as bits: the most that the others give.
        private final int[] most = new int[1 << TRIMS];

        void forget() {
            for (int i = 0; i < thrown.length; i++) {
                thrown[i] = false;
            }
        }

        int choose(Flight flight, int bits) {
            takeMinutes(bits);
            throwAll(flight);
            for (int used = most.length - 1; used >= 0; used--) {
                most[used] = mostBehind(used);
            }
            assign();
            return most[0];
        }

        private void takeMinutes(int bits) {
            minutesInAll = 0;
            for (int minute = 0; minute < MINUTES; minute++) {
                thrown[minute] = (bits >> minute & 1) != 0;
                if (thrown[minute] && minutesInAll < TRIMS) {
                    minutes[minutesInAll] = minute;
                    minutesInAll++;
                }
            }
        }

        private void throwAll(Flight flight) {
            for (int i = 0; i < minutesInAll && i < TRIMS; i++) {
                for (int t = 0; t < TRIMS; t++) {
                    flight.fly(minutes[i], t - MOST_TRIM, false, MOST_STEPS);
                    far[i][t] = flight.far;
                }
            }
        }

        private int mostBehind(int used) {
            int i = Integer.bitCount(used);
            if (i >= minutesInAll || i >= TRIMS) {
                return 0;
            }
            boolean any = false;
            int best = 0;
            for (int t = 0; t < TRIMS; t++) {
                if (isFree(used, t)) {
                    int together = togetherBy(i, t, used);
                    best = any && best >= together ? best : together;
                    any = true;
                }
            }
            return best;
        }

        /** Gives each minute the least trim by which the most is still to be had. */
        private void assign() {
            int used = 0;
            for (int i = 0; i < minutesInAll && i < TRIMS; i++) {
                int t = leastTrim(i, used);
                int minute = minutes[i];
                if (minute >= 0 && minute < MINUTES) {
                    trims[minute] = t - MOST_TRIM;
                }
                used |= 1 << t;
            }
        }

        private int leastTrim(int i, int used) {
            int most = used >= 0 && used < this.most.length ? this.most[used] : 0;
            for (int t = 0; t < TRIMS; t++) {
                if (isFree(used, t) && togetherBy(i, t, used) == most) {
                    return t;
                }
            }
            return 0;
        }

        private static boolean isFree(int used, int t) {
            return (used >> t & 1) == 0;
        }

        private int togetherBy(int i, int t, int used) {
            int after = used | 1 << t;
            boolean stands = i >= 0 && i < TRIMS && t >= 0 && t < TRIMS && after >= 0 && after < most.length;
            return stands ? far[i][t] + most[after] : 0;
        }
    }

    /** Which rows can be taught, one from another. */
    private static final class Lessons {
        int taughtRows;
        final int[] order = new int[MOST_TAUGHT];
        private final boolean[] isTaught = new boolean[MOST_TAUGHT];

        /** How many folds a row has; NONE, if a number is not as told. */
        int lengthAsTold(int a, int b, int c, int d, int knownFolds) {
            int length = 0;
            boolean ended = false;
            for (int i = 0; i < MOST_ROW; i++) {
                int number = i == 0 ? a : i == 1 ? b : i == 2 ? c : d;
                if (number == NONE) {
                    ended = true;
                } else if (ended || number < 0 || number >= knownFolds) {
                    return NONE;
                } else {
                    length++;
                }
            }
            return length;
        }

        void arrange(State state) {
            taughtRows = 0;
            for (int i = 0; i < isTaught.length; i++) {
                isTaught[i] = false;
            }
            for (int turns = 0; turns < MOST_TAUGHT; turns++) {
                int next = leastTeachable(state);
                if (next < 0 || next >= MOST_TAUGHT) {
                    return;
                }
                isTaught[next] = true;
                order[turns] = next;
                taughtRows++;
            }
        }

        private int leastTeachable(State state) {
            for (int i = 0; i < state.rowsToTeach && i < MOST_TAUGHT; i++) {
                if (!isTaught[i] && isTeachable(state, i)) {
                    return i;
                }
            }
            return NONE;
        }

        private boolean isTeachable(State state, int row) {
            if (state.lengthOfRow(row) == 1) {
                return true;
            }
            for (int i = 0; i < state.rowsToTeach && i < MOST_TAUGHT; i++) {
                if (isTaught[i] && (isOneMoreBehind(state, row, i) || isOneLeftOut(state, row, i))) {
                    return true;
                }
            }
            return false;
        }

        private static boolean isOneMoreBehind(State state, int row, int taughtRow) {
            int length = state.lengthOfRow(taughtRow);
            return state.lengthOfRow(row) == length + 1
                    && isLeftOutAt(state, taughtRow, row, length);
        }

        private static boolean isOneLeftOut(State state, int row, int taughtRow) {
            if (state.lengthOfRow(row) + 1 != state.lengthOfRow(taughtRow)) {
                return false;
            }
            for (int leftOut = 0; leftOut < MOST_ROW; leftOut++) {
                if (isLeftOutAt(state, row, taughtRow, leftOut)) {
                    return true;
                }
            }
            return false;
        }

        /** Whether a row is another one, which has one fold more, without the fold there. */
        private static boolean isLeftOutAt(State state, int row, int fuller, int leftOut) {
            int length = state.lengthOfRow(row);
            for (int i = 0; i < length && i < MOST_ROW; i++) {
                if (state.foldOfRow(row, i) != state.foldOfRow(fuller, i < leftOut ? i : i + 1)) {
                    return false;
                }
            }
            return true;
        }
    }
}
