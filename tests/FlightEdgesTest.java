/** The edges of "Terms 3", of a FLIGHT: each test bears its term and its sentence. */
public final class FlightEdgesTest {
    /** A push for each minute from 0 on; all of them differ. */
    private static final int[] PUSHES = {0, 3, -2, 5, 1, -5, 2, 4, -1, -4};
    private static final int LEFT = 0;
    private static final int RIGHT = 1;

    private FlightEdgesTest() {
    }

    public static void main(String[] args) {
        atFirst();
        windGoesRound();
        windOfEachStep();
        forward();
        sink();
        sinkWet();
        endsWhenLow();
        endsBehind200();
        turnEach();
        turnRound();
        turnBehindTheLast();
        directions();
        windowFar();
        windowHigh();
        windowAhead();
        windowWithNothingAside();
        windowAgain();
        windowLastStep();
        Check.end();
    }

    /** A sheet of one cell, NOSINESS 0, wings alike. */
    private static FoldTower cell(String more) {
        return Check.schooled("sheet 1 1;" + more);
    }

    /** A sheet of which one wing has so many more; it goes so far and is so much lower a step. */
    private static FoldTower uneven(int side, int by, int forward, int sink, String more) {
        int nosiness = by == 1 ? 0 : 5;
        FoldTower t = Check.schooled("sheet 3 " + by + ";table " + nosiness + " " + forward + " " + sink + ";" + more);
        Check.is("WINGS uneven by " + by, 1, () -> t.fold(side, 1));
        Check.is("WINGS uneven by " + by, side == LEFT ? -by : by, () -> t.count(7));
        Check.is("WINGS uneven by " + by + ", NOSINESS", nosiness, () -> t.count(6));
        return t;
    }

    private static String pushes() {
        StringBuilder s = new StringBuilder();
        for (int m = 0; m < 10; m++) {
            s.append("wind ").append(m).append(' ').append(PUSHES[m]).append(" 0;");
        }
        return s.toString();
    }

    /** "at first 0 far, 0 aside, AHEAD", from the TOWER. */
    private static void atFirst() {
        FoldTower t = cell("tower 1;");
        for (int minute = 0; minute < 10; minute++) {
            for (int trim = -3; trim <= 3; trim++) {
                int m = minute;
                int r = trim;
                String name = "A FLIGHT at first, minute " + m + ", trim " + r;
                Check.is(name + ", far", 0, () -> t.step(m, r, true, 0, 0));
                Check.is(name + ", high", 1, () -> t.step(m, r, false, 0, 1));
                Check.is(name + ", AHEAD", 0, () -> t.step(m, r, true, 0, 2));
            }
        }
    }

    /** "the WIND is that of the MINUTE and s, MOD 10": from each minute, through all 200 steps. */
    private static void windGoesRound() {
        FoldTower t = cell("table 0 10 0;" + pushes());
        for (int minute = 0; minute < 10; minute++) {
            int far = 0;
            for (int s = 0; s < 23; s++) {
                far += 10 + PUSHES[(minute + s) % 10];
                int m = minute;
                int steps = s + 1;
                Check.is("WIND of minute " + m + " behind " + steps + " steps", far,
                        () -> t.step(m, 0, false, steps, 0));
            }
        }
        int all = 0;
        for (int s = 0; s < 200; s++) {
            all += 10 + PUSHES[(9 + s) % 10];
        }
        int due = all;
        Check.is("WIND of minute 9 round 20 times", due, () -> t.flight(9, 0, false, 0));
    }

    /** PUSH and LIFT of minute 9 in the first step, of minute 0 in the second; from 0 the last is 9 of the tenth. */
    private static void windOfEachStep() {
        FoldTower t = cell("table 0 5 3;wind 9 3 1;wind 0 -2 -2;");
        int[][] due = {{8, 28}, {11, 23}, {16, 20}};
        for (int i = 0; i < 3; i++) {
            int k = i;
            Check.is("WIND from 9, far behind " + (k + 1), due[k][0], () -> t.step(9, 0, false, k + 1, 0));
            Check.is("WIND from 9, high behind " + (k + 1), due[k][1], () -> t.step(9, 0, false, k + 1, 1));
        }
        FoldTower tenth = cell("table 0 1 1;wind 9 4 0;");
        Check.is("WIND from 0, the ninth step", 9, () -> tenth.step(0, 0, false, 9, 0));
        Check.is("WIND from 0, the tenth step", 14, () -> tenth.step(0, 0, false, 10, 0));
        Check.is("WIND from 0, the eleventh step", 15, () -> tenth.step(0, 0, false, 11, 0));
        Check.is("WIND from 0, the twentieth step", 28, () -> tenth.step(0, 0, false, 20, 0));
    }

    /** "It goes FORWARD (by the TABLE) less how far TRIM is from 0, and PUSH, 0 at least". */
    private static void forward() {
        for (int forward : new int[] {0, 1, 2, 3, 7, 8, 9, 20}) {
            StringBuilder winds = new StringBuilder();
            for (int m = 0; m < 10; m++) {
                winds.append("wind ").append(m).append(' ').append(m - 5 + m / 9).append(" 0;");
            }
            FoldTower t = cell("tower 1;table 0 " + forward + " 20;" + winds);
            for (int minute = 0; minute < 10; minute++) {
                for (int trim = -3; trim <= 3; trim++) {
                    int m = minute;
                    int r = trim;
                    int push = minute - 5 + minute / 9;
                    int due = Math.max(0, forward - Math.abs(trim) + push);
                    Check.is("FORWARD " + forward + ", trim " + trim + ", PUSH " + push, due,
                            () -> t.flight(m, r, false, 0));
                }
            }
        }
    }

    /** "Then it is lower by SINK less TRIM less LIFT .. (0 at least)." */
    private static void sink() {
        for (int sink : new int[] {0, 1, 2, 3, 7, 8, 9, 20}) {
            StringBuilder winds = new StringBuilder();
            for (int m = 0; m < 10; m++) {
                winds.append("wind ").append(m).append(" 0 ").append(m - 5 + m / 9).append(';');
            }
            FoldTower t = cell("tower 100;table 0 1 " + sink + ";" + winds);
            for (int minute = 0; minute < 10; minute++) {
                for (int trim = -3; trim <= 3; trim++) {
                    int m = minute;
                    int r = trim;
                    int lift = minute - 5 + minute / 9;
                    int lower = sink - trim - lift;
                    String name = "SINK " + sink + ", trim " + trim + ", LIFT " + lift;
                    Check.is(name + ", dry", 100 - Math.max(0, lower), () -> t.step(m, r, false, 1, 1));
                    Check.is(name + ", wet", 100 - Math.max(0, lower + 1), () -> t.step(m, r, true, 1, 1));
                }
            }
        }
    }

    /** "and 1 more if wet": never farther a step, but not lower by less than 0. */
    private static void sinkWet() {
        FoldTower t = cell("tower 3;table 0 5 1;");
        Check.is("wet, far in a step", 5, () -> t.step(0, 0, true, 1, 0));
        Check.is("dry, LONG", 3, () -> t.flight(0, 0, false, 1));
        Check.is("wet, LONG", 2, () -> t.flight(0, 0, true, 1));
        Check.is("dry by 0, LONG", 200, () -> t.flight(0, 1, false, 1));
        Check.is("wet by 1, LONG", 3, () -> t.flight(0, 1, true, 1));
        Check.is("wet by 0, LONG", 200, () -> t.flight(0, 2, true, 1));
        Check.is("wet by less than 0, LONG", 200, () -> t.flight(0, 3, true, 1));
        Check.is("wet by less than 0, high", 3, () -> t.step(0, 3, true, 200, 1));
    }

    /** "It ends when it is 0 high or less". */
    private static void endsWhenLow() {
        FoldTower to0 = cell("tower 6;table 0 1 3;");
        Check.is("It ends at 0 high, LONG", 2, () -> to0.flight(0, 0, false, 1));
        Check.is("It ends at 0 high", 0, () -> to0.step(0, 0, false, 2, 1));
        Check.none("It ends at 0 high, no step more", () -> to0.step(0, 0, false, 3, 1));
        FoldTower to1 = cell("tower 7;table 0 1 3;");
        Check.is("It goes on at 1 high, LONG", 3, () -> to1.flight(0, 0, false, 1));
        Check.is("It goes on at 1 high", 1, () -> to1.step(0, 0, false, 2, 1));
        Check.is("It ends below 0", -2, () -> to1.step(0, 0, false, 3, 1));
        Check.none("It ends below 0, no step more", () -> to1.step(0, 0, false, 4, 1));
        FoldTower once = cell("tower 1;table 0 20 20;wind 0 5 -5;");
        Check.is("It ends behind one step, LONG", 1, () -> once.flight(0, 0, false, 1));
        Check.is("It ends behind one step, FAR", 25, () -> once.flight(0, 0, false, 0));
        Check.is("It ends behind one step, as low as can be", 1 - 20 - 3 - 5 - 1, () -> once.step(0, -3, true, 1, 1));
        FoldTower most = cell("tower 200;table 0 1 20;");
        Check.is("It ends at 0 from 200 high, LONG", 10, () -> most.flight(0, 0, false, 1));
        Check.is("It ends below 0 from 200 high, LONG", 9, () -> most.flight(0, -3, false, 1));
    }

    /** "or behind 200 STEPS". */
    private static void endsBehind200() {
        FoldTower just = cell("tower 200;table 0 1 1;");
        Check.is("LONG, 200 high by 1", 200, () -> just.flight(0, 0, false, 1));
        Check.is("LONG, 200 high by 1, behind 199", 1, () -> just.step(0, 0, false, 199, 1));
        Check.is("LONG, 200 high by 1, behind 200", 0, () -> just.step(0, 0, false, 200, 1));
        FoldTower less = cell("tower 199;table 0 1 1;");
        Check.is("LONG, 199 high by 1", 199, () -> less.flight(0, 0, false, 1));
        Check.none("LONG, 199 high by 1, behind 200", () -> less.step(0, 0, false, 200, 0));
        FoldTower ever = cell("tower 200;table 0 20 0;wind 0 5 0;");
        Check.is("LONG at most", 200, () -> ever.flight(0, 0, false, 1));
        Check.is("LONG at most, high", 200, () -> ever.step(0, 0, false, 200, 1));
        Check.is("LONG at most, FAR", 200 * 20 + 20 * 5, () -> ever.flight(0, 0, false, 0));
        Check.none("LONG at most, no step more", () -> ever.step(0, 0, false, 201, 0));
    }

    /** "behind each so manieth STEP (8 by how much they are not, cut down, 1 at least)". */
    private static void turnEach() {
        int[] each = {0, 8, 4, 2, 2, 1, 1, 1, 1};
        for (int by = 1; by <= 8; by++) {
            for (int side = LEFT; side <= RIGHT; side++) {
                turnIs(uneven(side, by, 5, 0, "tower 200;"), "WINGS by " + by, side, each[by]);
            }
        }
        for (int side = LEFT; side <= RIGHT; side++) {
            String row = side == LEFT ? "left 1;left 1;left 1;" : "right 1;right 1;right 1;";
            FoldTower nine = Check.schooled("sheet 5 3;table 5 5 0;");
            Check.is("WINGS by 9", 3, () -> Check.row(nine, row));
            Check.is("WINGS by 9", 9, () -> Math.abs(nine.count(7)));
            turnIs(nine, "WINGS by 9: 1 at least", side, 1);
            FoldTower most = Check.schooled("sheet 8 8;table 5 5 0;");
            Check.is("WINGS by 48", 6, () -> Check.row(most, row + row));
            Check.is("WINGS by 48", 48, () -> Math.abs(most.count(7)));
            turnIs(most, "WINGS by 48: 1 at least", side, 1);
        }
        FoldTower alike = Check.schooled("sheet 3 8;table 5 5 0;");
        for (int steps : new int[] {1, 7, 8, 9, 100, 200}) {
            Check.is("WINGS alike, behind " + steps, 0, () -> alike.step(0, 0, false, steps, 2));
        }
        Check.is("WINGS alike, aside", 0, () -> alike.flight(0, 0, false, 2));
    }

    private static void turnIs(FoldTower t, String name, int side, int each) {
        for (int steps = 0; steps <= 5 * each; steps++) {
            int s = steps;
            int turns = steps / each % 4;
            int due = side == RIGHT ? turns : (4 - turns) % 4;
            Check.is(name + (side == LEFT ? " left" : " right") + ", behind " + s, due,
                    () -> t.step(0, 0, false, s, 2));
        }
    }

    /** "(AHEAD, RIGHT, BACK, LEFT, and round; the other way if the left is heavier)", through all 200 steps. */
    private static void turnRound() {
        FoldTower right = uneven(RIGHT, 8, 5, 0, "");
        FoldTower left = uneven(LEFT, 8, 5, 0, "");
        for (int steps = 0; steps <= 200; steps++) {
            int s = steps;
            Check.is("round to the right, behind " + s, s % 4, () -> right.step(0, 0, false, s, 2));
            Check.is("round to the left, behind " + s, (4 - s % 4) % 4, () -> left.step(0, 0, false, s, 2));
        }
    }

    /** A step that ends the flight is a step, too: a turn comes behind it. */
    private static void turnBehindTheLast() {
        FoldTower low = uneven(RIGHT, 8, 5, 9, "tower 1;");
        Check.is("a turn behind the only step", 1, () -> low.step(0, 0, false, 1, 2));
        FoldTower eighth = uneven(LEFT, 1, 5, 1, "tower 8;");
        Check.is("a turn behind the eighth and last, LONG", 8, () -> eighth.flight(0, 0, false, 1));
        Check.is("no turn behind the seventh", 0, () -> eighth.step(0, 0, false, 7, 2));
        Check.is("a turn behind the eighth and last", 3, () -> eighth.step(0, 0, false, 8, 2));
        Check.is("a turn behind the eighth and last, far ahead", 40, () -> eighth.flight(0, 0, false, 0));
    }

    /** "AHEAD far grows, to the RIGHT aside, BACK and LEFT as much fewer." */
    private static void directions() {
        int[] far = {10, 10, 10 - 8, 10 - 8, 10 - 8 + 11};
        int[] aside = {0, 13, 13, 13 - 15, 13 - 15};
        String winds = "wind 1 3 0;wind 2 -2 0;wind 3 5 0;wind 4 1 0;";
        for (int steps = 1; steps <= 5; steps++) {
            for (int side = LEFT; side <= RIGHT; side++) {
                FoldTower t = uneven(side, 8, 10, 1, winds + "tower " + steps + ";");
                String name = (side == LEFT ? "to the left" : "to the right") + ", behind " + steps;
                int due = side == LEFT ? -aside[steps - 1] : aside[steps - 1];
                Check.is(name + ", far", far[steps - 1], () -> t.flight(0, 0, false, 0));
                Check.is(name + ", aside", due, () -> t.flight(0, 0, false, 2));
            }
        }
        FoldTower back = uneven(LEFT, 8, 0, 1, "tower 3;wind 2 5 0;");
        Check.is("BACK from 0: FAR below 0", -5, () -> back.flight(0, 0, false, 0));
        Check.is("BACK from 0: far below 0", -5, () -> back.step(0, 0, false, 3, 0));
    }

    private static void through(String name, int due, FoldTower t) {
        Check.is("THROUGH: " + name, due, () -> t.flight(0, 0, false, 3));
    }

    /** "it comes from less than D to D or more". */
    private static void windowFar() {
        through("to D", 1, cell("table 0 5 1;tower 2;window 10 0 0;"));
        through("to 1 less than D", 0, cell("table 0 5 1;tower 2;window 11 0 200;"));
        through("to 1 more than D", 1, cell("table 0 5 1;tower 2;window 9 0 0;"));
        through("to far more than D", 1, cell("table 0 20 1;tower 5;window 1 4 4;"));
        through("from 1 less than D", 1, cell("table 0 5 1;tower 2;window 6 0 0;"));
        through("not from D", 0, cell("table 0 5 1;tower 2;window 5 0 0;"));
        through("not from more than D", 0, cell("table 0 5 1;tower 2;window 4 0 0;"));
        through("not by a step of 0 at D", 0,
                cell("table 0 5 1;tower 4;wind 1 -5 0;wind 2 -5 0;wind 3 -5 0;window 5 0 2;"));
        through("D of 200", 1, cell("table 0 20 1;tower 10;window 200 0 0;"));
        through("D of 200, too low by then", 0, cell("table 0 20 1;tower 9;window 200 0 200;"));
        through("D of 1 by 1", 1, cell("table 0 1 1;tower 5;window 1 4 4;"));
    }

    /** "and is A to B high behind it". */
    private static void windowHigh() {
        // Behind the second step it is 10 far, 26 high; behind the first 28.
        String fly = "table 0 5 2;tower 30;";
        through("A high", 1, cell(fly + "window 10 26 30;"));
        through("1 less than A high", 0, cell(fly + "window 10 27 30;"));
        through("B high", 1, cell(fly + "window 10 0 26;"));
        through("1 more than B high", 0, cell(fly + "window 10 0 25;"));
        through("A and B high", 1, cell(fly + "window 10 26 26;"));
        through("as high as ahead of the step", 0, cell(fly + "window 10 28 28;"));
        through("200 high", 1, cell("table 0 1 0;tower 200;window 1 200 200;"));
        through("0 high", 1, cell("table 0 5 15;tower 30;window 10 0 0;"));
        through("1 below 0", 0, cell("table 0 5 15;tower 29;window 10 0 200;"));
    }

    /** "in a STEP AHEAD": the direction in the step, not behind it. */
    private static void windowAhead() {
        FoldTower first = uneven(LEFT, 8, 10, 1, "window 10 29 29;");
        through("AHEAD, a turn behind it", 1, first);
        // To the right, back and to the left it comes nowhere near; ahead again at the fifth, 25 high.
        FoldTower fifth = uneven(RIGHT, 8, 10, 1, "wind 4 5 0;window 15 25 25;");
        through("AHEAD again", 1, fifth);
        FoldTower later = uneven(RIGHT, 8, 10, 1, "wind 4 5 0;window 15 26 26;");
        through("AHEAD again, not the step before", 0, later);
        // Wings by 4: two steps ahead, two aside: it is 20 far behind the second, and stays so to the fourth.
        through("not aside", 0, uneven(RIGHT, 4, 10, 1, "window 20 25 27;tower 30;"));
        through("AHEAD in its second", 1, uneven(RIGHT, 4, 10, 1, "window 20 28 28;tower 30;"));
        through("not BACK over D", 0, uneven(RIGHT, 4, 10, 1, "window 5 26 28;"));
    }

    /** "with 0 aside": 1 aside to either side is too much; back at 0 aside it may be. */
    private static void windowWithNothingAside() {
        for (int side = LEFT; side <= RIGHT; side++) {
            // Ahead again in step 5, 25 high, and 1 aside; in step 9, 21 high, 0 aside.
            String winds = "wind 1 1 0;wind 4 -5 0;wind 6 -5 0;wind 7 1 0;wind 8 5 0;";
            FoldTower once = uneven(side, 8, 10, 1, "wind 1 1 0;wind 4 5 0;window 15 25 25;");
            through("1 aside", 0, once);
            Check.is("1 aside, far", 15, () -> once.step(0, 0, false, 5, 0));
            through("0 aside again", 1, uneven(side, 8, 10, 1, winds + "window 15 0 25;"));
            through("0 aside again, 21 high", 1, uneven(side, 8, 10, 1, winds + "window 15 21 21;"));
        }
    }

    /** A step back takes it below D again: it may come to D once more. */
    private static void windowAgain() {
        through("first", 1, uneven(LEFT, 8, 10, 1, "window 10 29 29;"));
        through("once more", 1, uneven(LEFT, 8, 10, 1, "window 10 25 25;"));
        through("not in the step BACK", 0, uneven(LEFT, 8, 10, 1, "window 10 26 28;"));
        through("for the fiftieth time", 1, uneven(LEFT, 8, 10, 1, "tower 199;window 10 2 2;"));
        through("all in all once is enough", 1, uneven(LEFT, 8, 10, 1, "window 10 25 29;"));
    }

    /** A step that ends the flight is a step, too. */
    private static void windowLastStep() {
        through("in the last step", 1, cell("table 0 7 5;tower 10;window 14 0 4;"));
        through("in the only step", 1, cell("table 0 20 1;tower 1;window 20 0 30;"));
        through("in the 200th step", 1, cell("table 0 1 0;tower 7;window 200 7 7;"));
        through("never in a 201st", 0, cell("table 0 1 0;tower 7;wind 0 -1 0;window 181 7 7;"));
        through("in the 200th step of 180", 1, cell("table 0 1 0;tower 7;wind 0 -1 0;window 180 7 7;"));
    }
}
