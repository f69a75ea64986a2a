/** The sentences of part I about CELLS, KINDS and STEPS that name a boundary, on both of its sides. */
public final class StepBoundaryTest extends Checks {
    private static final int UP = 0;
    private static final int RIGHT = 1;
    private static final int DOWN = 2;
    private static final int LEFT = 3;
    /** CELLS one above, right of, below and left of the one in the middle, 12. */
    private static final int[] AROUND = {7, 13, 17, 11};

    private static String two(int number) {
        return "" + number / 10 + number % 10;
    }

    private static void cellsAndWays() {
        about = "5 rows by 5 CELLS, 0 .. 24: row CELL by 5, cut, column CELL modulo 5";
        int[] cells = {0, 2, 4, 5, 9, 10, 12, 14, 15, 19, 20, 22, 24};
        int[][] beside = {
            {1, 5}, {1, 3, 7}, {3, 9}, {0, 6, 10}, {4, 8, 14}, {5, 11, 15}, {7, 11, 13, 17}, {9, 13, 19},
            {10, 16, 20}, {14, 18, 24}, {15, 21}, {17, 21, 23}, {19, 23}};
        SovereignInBarrow x = kingdomOf("mr9;");
        for (int i = 0; i < cells.length; i++) {
            int bits = 0;
            for (int cell : beside[i]) {
                bits |= 1 << cell;
            }
            x.stands(cells[i]);
            due("CELLS beside " + cells[i], x.easy(0), bits);
        }
        about = "WAYS: 0 up (a row less), 1 right, 2 down, 3 left";
        for (int way = 0; way < 4; way++) {
            x.stands(12);
            x.goal(AROUND[way]);
            dueAll("WAY " + way, all(x.pushing(0), x.pushing(1), x.goes(1)), way, way, AROUND[way]);
        }
    }

    private static void atFirst() {
        SovereignInBarrow x = new SovereignInBarrow();
        about = "HEIGHT of each (0 .. 9; 0 at first); KERB in it or not (not at first)";
        for (int cell = 0; cell < 25; cell++) {
            dueAll("CELL " + cell, all(x.cell(cell, 0), x.cell(cell, 1)), 0, 0);
            dueAll("HEIGHTS of " + cell, all(x.heaps(cell, -1), x.heaps(cell, 0), x.heaps(cell, 9), x.heaps(cell, 10), x.cell(cell, 0)),
                    -4, 0, 0, -6, 9);
            dueAll("KERB in " + cell, all(x.kerbs(cell), x.cell(cell, 1), x.kerbs(cell), x.cell(cell, 1)), 1, 1, 0, 0);
        }
        about = "THE BARROW is AT a CELL (0 at first), has a GOAL (a CELL; 24 at first), goes a WAY (1 at first)";
        SovereignInBarrow y = new SovereignInBarrow();
        dueAll("at first", all(y.count(2), y.count(3), kingdomOf("md0;b12;").pushing(1)), 0, 24, RIGHT);
        dueAll("a CELL", all(y.stands(-1), y.stands(25), y.stands(24), y.stands(0), y.count(2)), -1, -1, 0, 24, 0);
        dueAll("a GOAL", all(y.goal(-1), y.goal(25), y.goal(0), y.goal(24), y.count(3)), -1, -1, 24, 0, 24);
        about = "WEIGHT of the sovereign (0 .. 20; 5 at first)";
        dueAll("WEIGHTS", all(y.weighs(-1), y.weighs(21), y.count(4), y.weighs(20), y.weighs(0), y.count(4)), -4, -6, 5, 5, 20, 0);
        about = "STEP (0 .. 999; 0 at first)";
        due("at first", y.count(1), 0);
        for (int i = 0; i < 16; i++) {
            y.goes(60);
        }
        dueAll("998, 999, no more", all(y.goes(38), y.count(1), y.goes(2), y.goes(1), y.count(1), y.goes(1), y.count(1)),
                0, 998, -6, 0, 999, -6, 999);
        dueAll("the image of it", all(y.image(), y.on()), 999, 999);
    }

    private static void theSign() {
        about = "SIGN: if the GOAL is in another row, up or down towards it, else right or left; AT the GOAL none";
        for (int at = 0; at < 25; at++) {
            SovereignInBarrow x = new SovereignInBarrow();
            x.stands(at);
            for (int goal = 0; goal < 25; goal++) {
                x.goal(goal);
                int sign = goal == at ? -9 : goal > at ? RIGHT : LEFT;
                if (goal / 5 != at / 5) {
                    sign = goal > at ? DOWN : UP;
                }
                due("from " + at + " to " + goal, x.pushing(0), sign);
            }
        }
        dueAll("the next CELL, but in another row", all(kingdomOf("b04;g05;").pushing(0), kingdomOf("b05;g04;").pushing(0)), DOWN, UP);
    }

    /** The WAY that one pushes in the STEP of a number, AT 12, where all WAYS have a CELL, having gone right. */
    private static int wayIn(int step, String kind, int sign) {
        String before = step > 1 ? "s" + two(step - 1) + ";" : "";
        return kingdomOf(before + "m" + kind + "0;b12;g" + two(AROUND[sign]) + ";").pushing(1);
    }

    private static void whichWay() {
        int[] steps = {1, 2, 3, 4, 5, 6, 7, 8, 9, 11, 12, 13, 24, 60};
        for (int step : steps) {
            for (int sign = 0; sign < 4; sign++) {
                String when = " in STEP " + step + ", SIGN " + sign;
                about = "m MINISTER: the SIGN";
                due("WAY" + when, wayIn(step, "m", sign), sign);
                about = "l LEFT ONE: the SIGN, but if 3 divides STEP the WAY to the left of it (1 less; of 0: 3)";
                int[] left = {LEFT, UP, RIGHT, DOWN};
                int leftOnes = step % 3 == 0 ? left[sign] : sign;
                due("WAY" + when, wayIn(step, "l", sign), leftOnes);
                about = "s SPEAKER: the WAY it went last, if there is a CELL that WAY and 4 does not divide STEP, else the SIGN";
                due("WAY" + when, wayIn(step, "s", sign), step % 4 == 0 ? sign : RIGHT);
                about = "d DEAF: the WAY it went last, if there is a CELL that WAY, else the SIGN";
                due("WAY" + when, wayIn(step, "d", sign), RIGHT);
                about = "r RUNNER: the SIGN";
                due("WAY" + when, wayIn(step, "r", sign), sign);
                about = "o OPPOSITE: the WAY against that of a LEFT ONE (2 more, modulo 4)";
                int[] against = {DOWN, LEFT, UP, RIGHT};
                due("WAY" + when, wayIn(step, "o", sign), against[leftOnes]);
            }
        }
    }

    private static void ifThereIsACell() {
        about = "the WAY it went last, if there is a CELL that WAY";
        for (int at = 0; at < 20; at++) {
            int way = at % 5 == 4 ? DOWN : RIGHT;
            dueAll("right of " + at, all(kingdomOf("ms0;b" + two(at) + ";g22;").pushing(1), kingdomOf("md0;b" + two(at) + ";g22;").pushing(1)),
                    way, way);
        }
        // Gone up, down and left last: the SIGN is right, where there is a CELL before the wall and none AT it.
        String[] gone = {"b11;g01;mm0;s01;", "b11;g21;mm0;s01;", "b13;g10;mm0;s01;"};
        int[] ways = {UP, DOWN, LEFT};
        int[] before = {7, 17, 11};
        int[] at = {2, 22, 10};
        for (int i = 0; i < 3; i++) {
            String turned = gone[i] + "g" + (at[i] / 5 == 0 ? "04" : at[i] / 5 == 4 ? "24" : "14") + ";";
            for (int kind = 2; kind <= 3; kind++) {
                SovereignInBarrow x = kingdomOf(turned);
                x.turn(0, kind, 0);
                x.stands(before[i]);
                due("a CELL, having gone " + ways[i], x.pushing(1), ways[i]);
                x.stands(at[i]);
                due("no CELL, having gone " + ways[i], x.pushing(1), RIGHT);
            }
        }
        about = "o OPPOSITE: if there is a CELL that WAY, else that of a LEFT ONE";
        dueAll("against up", all(kingdomOf("mo0;b17;g02;").pushing(1), kingdomOf("mo0;b22;g02;").pushing(1)), DOWN, UP);
        dueAll("against down", all(kingdomOf("mo0;b07;g22;").pushing(1), kingdomOf("mo0;b02;g22;").pushing(1)), UP, DOWN);
        dueAll("against right", all(kingdomOf("mo0;b11;g14;").pushing(1), kingdomOf("mo0;b10;g14;").pushing(1)), LEFT, RIGHT);
        dueAll("against left", all(kingdomOf("mo0;b13;g10;").pushing(1), kingdomOf("mo0;b14;g10;").pushing(1)), RIGHT, LEFT);
        dueAll("in STEP 3: against left, which a LEFT ONE goes for up", all(kingdomOf("s02;mo0;b13;g03;").pushing(1),
                kingdomOf("s02;mo0;b14;g04;").pushing(1)), RIGHT, LEFT);
    }

    private static void howMuchHeCanHold() {
        about = "how much he can hold: FIGURE and 6; 2 more; as a MINISTER; 1 less; twice; as a LEFT ONE";
        SovereignInBarrow x = kingdomOf("mm0;");
        int[] least = {6, 8, 6, 5, 16, 8};
        int[] greatest = {15, 17, 15, 14, 34, 17};
        for (int kind = 0; kind < 6; kind++) {
            x.turn(0, kind, 0);
            due("KIND " + kind + ", FIGURE 0", x.minister(0, 4), least[kind]);
            x.turn(0, kind, 9);
            due("KIND " + kind + ", FIGURE 9", x.minister(0, 4), greatest[kind]);
        }
        about = "LOAD above what he can hold: he FALLS; else it is in that CELL";
        for (int kind = 0; kind < 6; kind++) {
            for (int figure = 0; figure < 10; figure++) {
                justHeld(kind, figure);
            }
        }
    }

    /** A LOAD (WEIGHT, or WEIGHT with hills) of just what he can hold, and of 1 more. */
    private static void justHeld(int kind, int figure) {
        SovereignInBarrow x = kingdomOf("mm0;b12;");
        x.turn(0, kind, figure);
        int hold = x.minister(0, 4);
        int hill = hold >= 20 ? 5 : 1;
        for (int cell : AROUND) {
            x.heaps(cell, hill);
        }
        x.weighs(hold - 3 * hill);
        dueAll("KIND " + kind + ", FIGURE " + figure + ": just held", all(x.pushing(2), x.goes(1) == 12 ? 1 : 0, x.count(5)), hold, 0, 0);
        x.stands(12);
        x.weighs(hold - 3 * hill + 1);
        dueAll("KIND " + kind + ", FIGURE " + figure + ": 1 more", all(x.pushing(2), x.goes(1), x.count(5)), hold + 1, 12, 1);
    }

    private static void nothingHappens() {
        about = "nothing happens AT the GOAL, or without MINISTERS, but that STEP is 1 more";
        SovereignInBarrow there = kingdomOf("mm0;ml0;w20;b12;g12;");
        dueAll("AT the GOAL", all(there.goes(1), there.count(1), there.count(5), there.then(0, 1), there.goes(60), there.count(1),
                there.count(5)), 12, 1, 0, 0, 12, 61, 0);
        there.goal(13);
        dueAll("beside it", all(there.goes(1), there.count(1), there.count(5), there.then(0, 1)), 12, 62, 1, 1);
        SovereignInBarrow none = new SovereignInBarrow();
        dueAll("without MINISTERS", all(none.goes(1), none.count(1), none.goes(60), none.count(1)), 0, 1, 0, 61);
        about = "there is no CELL: it stays";
        // In STEP 3 the LEFT ONE pushes right at the wall: with any WEIGHT he does not fall there.
        SovereignInBarrow wall = kingdomOf("s02;ml0;mm0;w20;b04;g24;");
        dueAll("at the wall", all(wall.pushing(1), wall.pushing(2), wall.goes(1), wall.count(1), wall.count(5), wall.minister(0, 3)),
                RIGHT, -9, 4, 3, 0, 0);
        SovereignInBarrow before = kingdomOf("s02;ml0;mm0;w20;b03;g23;");
        dueAll("before the wall", all(before.pushing(1), before.pushing(2), before.goes(1), before.count(1), before.count(5),
                before.minister(0, 3)), RIGHT, 20, 3, 3, 1, 1);
        SovereignInBarrow way = kingdomOf("mm0;b09;g19;s02;b04;g24;ml0;x0;s01;x1;");
        way.turn(0, 3, 0);
        dueAll("the WAY it went last stays: down", all(way.count(2), way.then(0, 1), way.pushing(1)), 4, 0, DOWN);
    }

    private static void theLoad() {
        about = "LOAD: WEIGHT, 3 times how much higher that CELL is (0 if it is not), and 4 if a KERB is in it";
        SovereignInBarrow x = kingdomOf("mm0;b00;g20;c005;w00;");
        int[] heights = {0, 4, 5, 6, 9};
        int[] loads = {0, 0, 0, 3, 12};
        for (int i = 0; i < heights.length; i++) {
            x.heaps(5, heights[i]);
            due("from 5 to " + heights[i], x.pushing(2), loads[i]);
            x.kerbs(5);
            due("from 5 to " + heights[i] + " with a KERB", x.pushing(2), loads[i] + 4);
            x.kerbs(5);
        }
        x.kerbs(0);
        due("a KERB where it is", x.pushing(2), 12);
        dueAll("the least and the greatest", all(kingdomOf("mm0;w00;").pushing(2), kingdomOf("mm0;w20;c059;k05;").pushing(2)), 0, 51);
    }

    private static void heFalls() {
        about = "he FALLS (1 more, 99 at most), he is last in THE ROW, THE BARROW stays";
        SovereignInBarrow x = kingdomOf("mm0;mm0;mm0;w20;");
        dueAll("each in turn", all(x.then(0, 1), x.then(1, 1), x.then(2, 1), x.then(3, 1), x.then(3, 0), x.then(3, 2)), 0, 1, 2, 0, 0, 3);
        SovereignInBarrow most = kingdomOf("mm0;mm0;w20;s60;s60;s60;s15;");
        dueAll("98 and 97", all(most.minister(0, 2), most.minister(1, 2)), 98, 97);
        dueAll("in mind", all(most.fallsThen(0, 1), most.fallsThen(0, 2), most.fallsThen(0, 3), most.fallsThen(1, 2), most.fallsThen(1, 3),
                most.fallsThen(1, 60), most.then(2, 2), most.then(3, 2), most.then(60, 2)), 98, 99, 99, 98, 99, 99, 197, 198, 198);
        most.goes(4);
        dueAll("99 and 99", all(most.minister(0, 2), most.minister(1, 2), most.count(5), most.then(0, 1)), 99, 99, 198, 1);
        dueAll("no more, but last in THE ROW", all(most.goes(1), most.minister(1, 2), most.then(0, 1), most.goes(1), most.minister(0, 2),
                most.then(0, 1), most.count(5)), 0, 99, 0, 0, 99, 1, 198);
        about = "else it is in that CELL, the WAY it went is that";
        SovereignInBarrow way = kingdomOf("mm0;md1;b12;g22;k17;s01;");
        dueAll("who falls changes no WAY", all(way.count(5), way.then(0, 1), way.pushing(1)), 1, 1, RIGHT);
        SovereignInBarrow gone = kingdomOf("mm0;md1;b07;g22;s01;x0;");
        dueAll("who does not fall does", all(gone.count(5), gone.then(0, 1), gone.pushing(1)), 0, 1, DOWN);
    }

    public static void main(String[] args) {
        cellsAndWays();
        atFirst();
        theSign();
        whichWay();
        ifThereIsACell();
        howMuchHeCanHold();
        nothingHappens();
        theLoad();
        heFalls();
        end("the boundaries of a STEP hold");
    }
}
