import java.math.BigInteger;

/**
 * The sentences of part II that name a boundary, on both of its sides. The kingdoms in which something comes
 * behind just 60 STEPS, or 61, were found by search.
 */
public final class MindBoundaryTest extends Checks {
    private static void nowAndNext() {
        about = "SIGN now (-9), the WAY the first would push in the next STEP (-9), LOAD of it (-9; no CELL, too)";
        SovereignInBarrow x = kingdomOf("mm0;b12;g13;");
        dueAll("beside the GOAL", all(x.pushing(0), x.pushing(1), x.pushing(2)), 1, 1, 5);
        x.goal(12);
        dueAll("AT the GOAL", all(x.pushing(0), x.pushing(1), x.pushing(2)), -9, -9, -9);
        SovereignInBarrow none = kingdomOf("b12;g13;");
        dueAll("without MINISTERS", all(none.pushing(0), none.pushing(1), none.pushing(2)), 1, -9, -9);
        SovereignInBarrow wall = kingdomOf("s02;ml0;b03;g23;");
        dueAll("before the wall", all(wall.pushing(0), wall.pushing(1), wall.pushing(2)), 2, 1, 5);
        wall.stands(4);
        wall.goal(24);
        dueAll("at the wall", all(wall.pushing(0), wall.pushing(1), wall.pushing(2)), 2, 1, -9);
    }

    private static void inMind() {
        about = "In mind, n STEPS on (0 .. 60): where it is; who pushes (-9); FALLS of one; all FALLS together";
        SovereignInBarrow x = kingdomOf("mm0;mm1;w20;s01;");
        dueAll("0", all(x.then(0, 0), x.then(0, 1), x.then(0, 2), x.fallsThen(0, 0), x.fallsThen(1, 0)), 0, 1, 1, 1, 0);
        dueAll("1", all(x.then(1, 0), x.then(1, 1), x.then(1, 2), x.fallsThen(0, 1), x.fallsThen(1, 1)), 0, 0, 2, 1, 1);
        dueAll("59", all(x.then(59, 1), x.then(59, 2), x.fallsThen(0, 59), x.fallsThen(1, 59)), 0, 60, 30, 30);
        dueAll("60", all(x.then(60, 1), x.then(60, 2), x.fallsThen(0, 60), x.fallsThen(1, 60)), 1, 61, 31, 30);
        dueAll("-1, 61", all(x.then(-1, 0), x.then(61, 0), x.fallsThen(0, -1), x.fallsThen(0, 61)), -4, -6, -4, -6);
        dueAll("as it was", all(x.count(1), x.count(5), x.then(0, 1)), 1, 1, 1);
        SovereignInBarrow none = new SovereignInBarrow();
        dueAll("without MINISTERS", all(none.then(0, 0), none.then(60, 0), none.then(0, 1), none.then(60, 1), none.then(60, 2)),
                0, 0, -9, -9, 0);
        SovereignInBarrow last = kingdomOf("mm0;mm0;w20;");
        for (int i = 0; i < 16; i++) {
            last.goes(60);
        }
        last.goes(39);
        last.weighs(0);
        dueAll("from STEP 999", all(last.count(1), last.then(60, 0), last.comes(24), last.goes(1), last.count(1)), 999, 24, 8, -6, 999);
    }

    private static void there() {
        about = "THERE: behind how many STEPS (0 .. 60) it is AT the GOAL first; -9";
        SovereignInBarrow late = kingdomOf("mo1;mo2;ms0;c064;c154;c231;s10;");
        due("behind 61", late.comes(-1), -9);
        late.goes(1);
        dueAll("behind 60", all(late.comes(-1), late.then(59, 0) == 24 ? 1 : 0, late.then(60, 0)), 60, 0, 24);
        late.goes(1);
        due("behind 59", late.comes(-1), 59);
        SovereignInBarrow x = kingdomOf("mm0;g00;");
        due("behind 0", x.comes(-1), 0);
        x.goal(1);
        due("behind 1", x.comes(-1), 1);
        x.weighs(7);
        due("never", x.comes(-1), -9);
        about = "COMES: to a CELL first, likewise";
        SovereignInBarrow sixty = kingdomOf("s09;mm1;ml8;mo0;ms1;c056;c089;c161;c228;b05;g08;w05;");
        dueAll("behind 60", all(sixty.comes(4), sixty.then(60, 0)), 60, 4);
        sixty.goes(1);
        due("behind 59", sixty.comes(4), 59);
        SovereignInBarrow more = kingdomOf("mo4;ms0;c064;c223;k09;b04;g24;w05;");
        due("behind 61", more.comes(12), -9);
        more.goes(1);
        dueAll("behind 60", all(more.comes(12), more.then(60, 0)), 60, 12);
        SovereignInBarrow y = kingdomOf("mm0;");
        dueAll("where it is, the next, beside its way, the GOAL", all(y.comes(0), y.comes(5), y.comes(1), y.comes(24)), 0, 1, -9, 8);
        SovereignInBarrow again = kingdomOf("ml0;");
        dueAll("first", all(again.then(4, 0), again.then(5, 0), again.then(6, 0), again.comes(16)), 16, 21, 16, 4);
        about = "COMES; -9; THERE (cell -1; -9). -1";
        dueAll("CELLS -2, 25", all(y.comes(-2), y.comes(-1), y.comes(25)), -1, 8, -1);
    }

    /** Four with 99 FALLS in THE ROW as they came, behind 396 STEPS, so that 12 divides STEP. */
    private static SovereignInBarrow fourWith99() {
        SovereignInBarrow x = kingdomOf("mm0;mm0;mm0;mm0;w20;s60;s60;s60;s60;s60;s60;s36;");
        dueAll("four with 99 FALLS", all(x.count(5), x.count(1), x.count(2), x.then(0, 1)), 396, 396, 0, 0);
        return x;
    }

    private static void down() {
        about = "DOWN: behind how many STEPS (0 .. 60) one FALLS more than now first; -9";
        SovereignInBarrow sixty = kingdomOf("s10;mo8;ml2;mo8;ml3;mo1;c009;c244;b14;g24;w05;");
        dueAll("behind 60", all(sixty.down(4), sixty.fallsThen(4, 59), sixty.fallsThen(4, 60)), 60, 0, 1);
        sixty.goes(1);
        due("behind 59", sixty.down(4), 59);
        SovereignInBarrow more = kingdomOf("mo7;ml1;mo3;ml3;mo7;c003;c249;b15;g00;w05;");
        dueAll("behind 61", all(more.down(4), more.fallsThen(4, 60)), -9, 0);
        more.goes(1);
        dueAll("behind 60", all(more.down(4), more.fallsThen(4, 60)), 60, 1);
        SovereignInBarrow x = kingdomOf("mm0;w06;");
        due("never: WEIGHT just held", x.down(0), -9);
        x.weighs(7);
        due("behind 1", x.down(0), 1);
        SovereignInBarrow most = kingdomOf("mm0;w20;s60;s38;");
        dueAll("98 FALLS, and 99", all(most.down(0), most.goes(1), most.down(0), most.minister(0, 2)), 1, 0, -9, 99);
        about = "FIRST: who does, of several the least; -9";
        SovereignInBarrow two = kingdomOf("mm0;mm0;w20;");
        dueAll("the first of THE ROW", all(two.down(-1), two.steps(0), two.down(-1), two.down(0), two.down(1)), 0, 1, 1, 2, 1);
        dueAll("nobody", all(kingdomOf("mm0;mm0;w06;").down(-1), new SovereignInBarrow().down(-1)), -9, -9);
        firstBehind60();
        about = "DOWN; -9; FIRST (minister -1; -9). -1";
        dueAll("MINISTERS -2, 2", all(two.down(-2), two.down(2), two.down(1)), -1, -1, 1);
    }

    /** Those with 99 FALLS fall no more than now, so that the fifth is who does: behind 60 STEPS, and 61. */
    private static void firstBehind60() {
        SovereignInBarrow x = fourWith99();
        tellAll(x, "g00;s10;mo1;c009;c244;b14;g24;w05;");
        x.turn(0, 5, 8);
        x.turn(1, 1, 2);
        x.turn(2, 5, 8);
        x.turn(3, 1, 3);
        dueAll("behind 60", all(x.down(-1), x.down(4), x.down(0), x.down(1), x.down(2), x.down(3)), 4, 60, -9, -9, -9, -9);
        SovereignInBarrow more = fourWith99();
        tellAll(more, "mo7;c003;c249;b15;g00;w05;");
        more.turn(0, 5, 7);
        more.turn(1, 1, 1);
        more.turn(2, 5, 3);
        more.turn(3, 1, 3);
        dueAll("behind 61", all(more.down(-1), more.down(4)), -9, -9);
        more.goes(1);
        dueAll("behind 60, then", all(more.down(-1), more.down(4)), 4, 60);
    }

    private static void stuck() {
        about = "STUCK: the least n (0 .. 60) behind which it is in one CELL for 12 STEPS; -9";
        SovereignInBarrow sixty = kingdomOf("s09;ms1;mm8;mo0;c075;c081;c109;k06;b00;g10;w06;");
        due("behind 60, not AT the GOAL", sixty.stuck(), 60);
        sixty.goes(1);
        due("behind 59", sixty.stuck(), 59);
        SovereignInBarrow more = kingdomOf("s04;ms2;mo0;mm3;c048;c078;c137;c237;b10;g13;w05;");
        due("behind 61", more.stuck(), -9);
        more.goes(1);
        due("behind 60", more.stuck(), 60);
        SovereignInBarrow late = kingdomOf("mo1;mo2;ms0;c064;c154;c231;s10;");
        dueAll("AT the GOAL behind 61, 60", all(late.stuck(), late.goes(1) >= 0 ? 1 : 0, late.stuck()), -9, 1, 60);
        due("behind 0", new SovereignInBarrow().stuck(), 0);
        due("never", kingdomOf("mo0;w00;b24;g00;").stuck(), -9);
        // The SPEAKER turns down where 4 divides STEP: behind 11 STEPS in 0, and behind 12.
        SovereignInBarrow eleven = kingdomOf("md1;md1;ms2;k01;k19;");
        dueAll("11 STEPS", all(eleven.then(11, 0), eleven.then(12, 0), eleven.stuck()), 0, 5, 19);
        SovereignInBarrow twelve = kingdomOf("s03;md1;md1;ms2;md1;md1;k01;");
        dueAll("12 STEPS", all(twelve.then(12, 0), twelve.then(13, 0), twelve.stuck()), 0, 5, 0);
    }

    private static void climb() {
        about = "CLIMB: the way (any WAY from CELL to CELL) on which how much it goes up is least together";
        SovereignInBarrow x = kingdomOf("b12;c124;");
        dueAll("where it is", all(x.climb(12, 0), x.climb(12, 1)), 0, 0);
        x.heaps(13, 3);
        due("lower", x.climb(13, 0), 0);
        x.heaps(13, 4);
        due("as high", x.climb(13, 0), 0);
        x.heaps(13, 5);
        due("1 higher", x.climb(13, 0), 1);
        x.heaps(13, 9);
        due("5 higher", x.climb(13, 0), 5);
        dueAll("down is nothing, up again is", all(kingdomOf("c009;c015;c029;c055;").climb(2, 0), kingdomOf("c009;c018;c029;c055;").climb(2, 0)),
                4, 1);
        SovereignInBarrow hole = kingdomOf("b12;c073;c113;c134;c175;");
        dueAll("out of a hole, the first CELL and the last", all(hole.climb(0, 0), hole.climb(24, 0), hole.climb(13, 0), hole.climb(0, 1)),
                3, 3, 4, 3);
        hole.stands(0);
        dueAll("and into it", all(hole.climb(12, 0), hole.climb(0, 0), hole.climb(24, 0)), 3, 0, 0);
        // Two walls, each with a gap at one end: the way without a climb goes to and fro.
        SovereignInBarrow snake = kingdomOf("c059;c069;c079;c089;c159;c169;c179;c189;");
        dueAll("round", all(snake.climb(10, 0), snake.climb(20, 0), snake.climb(5, 0)), 0, 0, 9);
        SovereignInBarrow longest = kingdomOf("c059;c069;c079;c089;c169;c179;c189;c199;c241;");
        dueAll("round and round", all(longest.climb(20, 0), longest.climb(23, 0), longest.climb(24, 0)), 0, 0, 1);
        about = "with a KERB as 2 more";
        SovereignInBarrow k = kingdomOf("k00;k01;k05;");
        dueAll("into the one KERB", all(k.climb(1, 0), k.climb(1, 1), k.climb(6, 1)), 0, 2, 2);
        k.kerbs(5);
        dueAll("round the KERB", all(k.climb(6, 1), k.climb(1, 1), k.climb(0, 1), k.climb(2, 1)), 0, 2, 0, 0);
        SovereignInBarrow even = kingdomOf("c012;c062;c112;c162;c212;k05;");
        even.kerbs(1);
        dueAll("a KERB and a hill", all(even.climb(1, 0), even.climb(1, 1), even.climb(24, 0), even.climb(24, 1)), 2, 4, 2, 4);
    }

    private static void push() {
        about = "PUSH: who had best push so that it is THERE soonest, sooner than as it is, of several the least; -9";
        SovereignInBarrow x = kingdomOf("mm0;mr0;mr5;k05;");
        dueAll("8 by 1 and by 2, 9 as it is", all(x.push(), x.comes(-1)), 1, 9);
        x.steps(0);
        dueAll("8 as it is", all(x.push(), x.comes(-1)), -9, 8);
        dueAll("as it is never", all(kingdomOf("mo9;mm0;").push(), kingdomOf("mo9;mo9;").push()), 1, -9);
        dueAll("AT the GOAL, and without MINISTERS", all(kingdomOf("mm0;mr0;g00;").push(), new SovereignInBarrow().push()), -9, -9);
        SovereignInBarrow sixty = kingdomOf("s03;ms2;mr0;md7;mo9;mm4;c055;c065;c099;k12;b01;g11;w05;");
        dueAll("THERE behind 60, else never", all(sixty.comes(-1), sixty.push()), -9, 3);
        SovereignInBarrow more = kingdomOf("s03;ms2;mm3;md7;mm3;mo3;c053;c065;c097;k17;b01;g10;w05;");
        dueAll("behind 61", all(more.comes(-1), more.push()), -9, -9);
    }

    private static void take() {
        about = "TAKE: the KERB which, taken away now, makes it so, likewise; -9";
        dueAll("9 by each and as it is, and 8 by the one", all(kingdomOf("mm0;mr0;k15;k24;").take(), kingdomOf("mm0;mr0;k15;").take()), -9, 15);
        SovereignInBarrow least = kingdomOf("ml0;k05;k12;");
        dueAll("14 by 5 and by 12, 17 as it is", all(least.comes(-1), least.take()), 17, 5);
        dueAll("no KERB, and one beside the way", all(kingdomOf("mm0;w20;").take(), kingdomOf("mm0;k01;").take()), -9, -9);
        dueAll("the first CELL and the last", all(kingdomOf("mm0;b05;g00;k00;").take(), kingdomOf("mm0;k24;").take()), 0, 24);
        SovereignInBarrow sixty = kingdomOf("s10;mo1;mo0;ms8;c012;c021;c129;c189;c219;k02;b18;g24;w05;");
        dueAll("THERE behind 60, else never", all(sixty.comes(-1), sixty.take()), -9, 2);
        SovereignInBarrow more = kingdomOf("s11;mo1;mo6;ms2;c028;c167;c177;c183;k09;k22;b21;g11;w06;");
        dueAll("behind 61", all(more.comes(-1), more.take()), -9, -9);
        more.kerbs(22);
        dueAll("behind 61, so it is", all(more.comes(-1), more.goes(1) >= 0 ? 1 : 0, more.comes(-1)), -9, 1, 60);
    }

    private static void flat() {
        about = "FLAT: the CELL which, of HEIGHT 0 now, makes it so, likewise; -9";
        dueAll("sooner, and not", all(kingdomOf("mm0;mr0;c151;").flat(), kingdomOf("mr0;c151;").flat()), 15, -9);
        SovereignInBarrow least = kingdomOf("ml2;c214;c172;");
        dueAll("11 by 17 and by 21", all(least.comes(-1), least.flat()), -9, 17);
        dueAll("the first CELL and the last", all(kingdomOf("mm0;b05;g00;c001;").flat(), kingdomOf("mm0;c241;").flat()), 0, 24);
        SovereignInBarrow sixty = kingdomOf("mm0;mm7;md6;ms4;mo2;c023;c038;c122;c179;c182;c223;b16;g04;w05;");
        dueAll("THERE behind 60, else never", all(sixty.comes(-1), sixty.flat()), -9, 17);
        SovereignInBarrow more = kingdomOf("s03;ms1;ml4;mo3;c028;c063;c092;c189;c235;b23;g00;w05;");
        dueAll("behind 61", all(more.comes(-1), more.flat()), -9, -9);
        more.heaps(2, 0);
        dueAll("behind 61, so it is", all(more.comes(-1), more.goes(1) >= 0 ? 1 : 0, more.comes(-1)), -9, 1, 60);
    }

    private static void mostWeight() {
        about = "MOST WEIGHT: the most (0 .. 20) with which it is THERE within 60; -9";
        dueAll("20, 19", all(kingdomOf("mr2;").mostWeight(), kingdomOf("mr3;c051;").mostWeight(), kingdomOf("mr2;c051;").mostWeight(),
                kingdomOf("mr1;").mostWeight()), 20, 19, 17, 18);
        dueAll("0, and none", all(kingdomOf("mm9;c055;").mostWeight(), kingdomOf("mm8;c055;").mostWeight()), 0, -9);
        dueAll("AT the GOAL, and without MINISTERS", all(kingdomOf("g00;").mostWeight(), kingdomOf("g01;").mostWeight()), 20, -9);
        SovereignInBarrow sixty = kingdomOf("mr1;ms2;mm7;ml6;c142;c177;c188;c193;b07;g16;w05;");
        due("THERE behind 60 with 7", sixty.mostWeight(), 7);
        sixty.weighs(7);
        due("behind 60", sixty.comes(-1), 60);
        SovereignInBarrow more = kingdomOf("s11;mo9;ms5;ms0;mo6;ms2;c015;c068;c178;k02;b23;g24;w05;");
        due("THERE behind 61 with 8", more.mostWeight() < 8 ? 1 : 0, 1);
        more.weighs(8);
        dueAll("behind 61", all(more.comes(-1), more.goes(1) >= 0 ? 1 : 0, more.comes(-1)), -9, 1, 60);
    }

    private static void start() {
        about = "START: the CELL from which it is THERE soonest (not the GOAL), of several the least; -9; when";
        SovereignInBarrow x = kingdomOf("mm0;");
        dueAll("19 and 23", all(x.start(0), x.start(1)), 19, 1);
        x.goal(0);
        dueAll("not the GOAL: 1 and 5", all(x.start(0), x.start(1)), 1, 1);
        x.kerbs(0);
        dueAll("none", all(x.start(0), x.start(1)), -9, -9);
        SovereignInBarrow sixty = kingdomOf("s11;mo1;ms4;mo3;ms1;mm9;c022;c076;c128;c153;c189;c198;c206;b00;g20;w05;");
        int from = sixty.start(0);
        due("behind 60", sixty.start(1), 60);
        sixty.stands(from);
        due("so it is", sixty.comes(-1), 60);
        SovereignInBarrow more = kingdomOf("s07;md0;ms8;mo0;ms3;c037;c125;c172;c206;k10;k21;b00;g12;w05;");
        dueAll("behind 61", all(more.start(0), more.start(1)), -9, -9);
    }

    private static void bestKind() {
        about = "BEST MINISTER: for a MINISTER the KIND with which it is THERE soonest (within 60), of several the least; -9; when";
        SovereignInBarrow same = kingdomOf("mr0;");
        dueAll("m, s, d, r: 8", all(same.bestKind(0, 0), same.bestKind(0, 1)), 0, 8);
        SovereignInBarrow kerb = kingdomOf("mm0;k05;k01;");
        dueAll("r alone: 8", all(kerb.bestKind(0, 0), kerb.bestKind(0, 1)), 4, 8);
        kerb.weighs(13);
        dueAll("none", all(kerb.bestKind(0, 0), kerb.bestKind(0, 1)), -9, -9);
        SovereignInBarrow there = kingdomOf("mo0;g00;");
        dueAll("AT the GOAL", all(there.bestKind(0, 0), there.bestKind(0, 1)), 0, 0);
        SovereignInBarrow sixty = kingdomOf("ms9;md6;mm3;mm2;ml6;c037;c243;k01;b19;g02;w13;");
        int kind = sixty.bestKind(1, 0);
        due("behind 60", sixty.bestKind(1, 1), 60);
        sixty.turn(1, kind, 6);
        due("so it is", sixty.comes(-1), 60);
        SovereignInBarrow more = kingdomOf("ms1;mo4;md0;mr2;mo6;c037;c063;c245;b20;g00;w05;");
        dueAll("behind 61", all(more.bestKind(3, 0), more.bestKind(3, 1)), -9, -9);
    }

    private static void far() {
        about = "FAR: STEPS from where it is to the GOAL, rows and columns";
        dueAll("8, 0, 1", all(new SovereignInBarrow().far(0), kingdomOf("g00;").far(0), kingdomOf("g01;").far(0)), 8, 0, 1);
        dueAll("4 to 5, 20 to 4", all(kingdomOf("b04;g05;").far(0), kingdomOf("b20;g04;").far(0)), 5, 8);
        about = "TALLEST: the highest CELL, of several the least";
        dueAll("0, 24, 3 of two", all(new SovereignInBarrow().far(1), kingdomOf("c241;").far(1), kingdomOf("c039;c049;c028;").far(1)), 0, 24, 3);
        about = "KERBS: how many; in the square between it and the GOAL (their rows and columns, and those between)";
        SovereignInBarrow x = new SovereignInBarrow();
        dueAll("none", all(x.far(2), x.far(3)), 0, 0);
        for (int cell = 0; cell < 25; cell++) {
            x.kerbs(cell);
        }
        dueAll("all", all(x.far(2), x.far(3)), 25, 25);
        int[][] corners = {{0, 0, 1}, {0, 1, 2}, {6, 18, 9}, {18, 6, 9}, {8, 16, 9}, {16, 8, 9}, {4, 5, 10}, {20, 4, 25}, {10, 14, 5}, {2, 22, 5}};
        for (int[] corner : corners) {
            x.stands(corner[0]);
            x.goal(corner[1]);
            due("between " + corner[0] + " and " + corner[1], x.far(3), corner[2]);
        }
        SovereignInBarrow edge = kingdomOf("b06;g18;k06;k18;k08;k16;k12;k05;k01;k19;k23;k09;k21;");
        dueAll("in it, and just not", all(edge.far(2), edge.far(3)), 11, 5);
    }

    private static void easy() {
        about = "EASY: CELLS (bits) it could be pushed into from where it is by the first with LOAD he can hold (any WAY)";
        SovereignInBarrow x = kingdomOf("mm4;mr9;b12;c071;c172;k13;");
        due("8, 5, 11, 9 by 10", x.easy(0), 1 << 7 | 1 << 11 | 1 << 13);
        x.weighs(6);
        due("9, 6, 12, 10 by 10", x.easy(0), 1 << 7 | 1 << 11 | 1 << 13);
        x.weighs(7);
        due("10, 7, 13, 11 by 10", x.easy(0), 1 << 7 | 1 << 11);
        x.weighs(8);
        due("11, 8, 14, 12 by 10", x.easy(0), 1 << 11);
        x.weighs(11);
        due("none by 10", x.easy(0), 0);
        x.steps(0);
        due("all by 34", x.easy(0), 1 << 7 | 1 << 11 | 1 << 13 | 1 << 17);
        x.stands(24);
        due("in the corner, AT the GOAL", x.easy(0), 1 << 19 | 1 << 23);
        about = "SURE: MINISTERS (bits) who can hold WEIGHT and 13";
        SovereignInBarrow sure = kingdomOf("mm7;mm6;ml5;mr0;mr9;w00;");
        dueAll("13, 12, 13, 16, 34 by 13, 14, 17, 33",
                all(sure.easy(1), sure.weighs(1), sure.easy(1), sure.weighs(4), sure.easy(1), sure.weighs(20), sure.easy(1)),
                1 | 4 | 8 | 16, 0, 8 | 16, 1, 16, 4, 16);
        dueAll("34 and 32 by 33", all(kingdomOf("mr9;mr8;w20;").easy(1), kingdomOf("mr9;mr8;w19;").easy(1)), 1, 3);
        about = "CLUMSY: who FELL most, of several the least; -9";
        SovereignInBarrow clumsy = kingdomOf("mm0;mm0;w20;");
        dueAll("none more than others", all(clumsy.easy(2), clumsy.steps(0), clumsy.goes(1), clumsy.easy(2), clumsy.goes(1), clumsy.easy(2)),
                0, 1, 0, 1, 0, 0);
        SovereignInBarrow five = kingdomOf("mm0;mm0;mm0;mm0;mm0;w20;x0;x1;x2;x3;");
        dueAll("the last of five", all(five.easy(2), five.goes(1), five.easy(2), five.goes(4), five.easy(2)), 0, 0, 4, 0, 0);
        due("without MINISTERS", new SovereignInBarrow().easy(2), -9);
        dueAll("nobody and nothing", all(new SovereignInBarrow().easy(0), new SovereignInBarrow().easy(1)), 0, 0);
    }

    private static void twoMinisters() {
        about = "TWO MINISTERS: each wants fewest FALLS more behind n STEPS (0 .. 30), 1 more for stepping back";
        SovereignInBarrow x = kingdomOf("s02;mr1;mo0;c037;c192;b19;g00;w05;");
        dueAll("29, 30, 31", all(x.two(0, 1, 29), x.two(0, 1, 30), x.two(0, 1, 31), x.two(0, 1, -1), x.two(0, 1, 0)), 0, 10, -6, -4, 0);
        dueAll("the lesser number first", all(x.two(1, 0, 30), x.two(1, 0, 29)), 10, 0);
        SovereignInBarrow one = kingdomOf("ml3;md3;mm7;c236;b00;g24;w05;");
        dueAll("29, 30", all(one.two(0, 1, 29), one.two(0, 1, 30), one.two(1, 0, 30)), 10, 1, 1);
        SovereignInBarrow both = kingdomOf("s06;ms1;ml3;mm2;c163;b17;g16;w05;");
        dueAll("29, 30, both", all(both.two(0, 1, 29) == 11 ? 1 : 0, both.two(0, 1, 30), both.two(1, 0, 30)), 0, 11, 11);
        // The MINISTER falls once at the KERB if he is first, and steps back for as much.
        dueAll("1 FALL more is not worth it", all(kingdomOf("mm0;mr0;k05;").two(0, 1, 9), kingdomOf("mr0;mm0;x0;k05;").two(0, 1, 9)), 0, 0);
        about = "-1 either (one twice, too); -4; -6 30";
        dueAll("-1", all(x.two(0, 0, 5), x.two(-1, 1, 5), x.two(0, 2, 5), x.two(2, 1, 5), x.two(0, -1, 5), x.two(1, 1, 31)), -1, -1, -1, -1, -1, -1);
    }

    private static void plank() {
        about = "PLANK: in each of n STEPS (0 .. 7), with odds 1 in t (2 .. 20) LOAD is 5 more: a fraction";
        SovereignInBarrow x = kingdomOf("mm0;");
        dueAll("n -1, 0, 7, 8", all(x.plank(0, -1, 2, 0), x.plank(0, 0, 2, 0), x.plank(0, 7, 2, 1), x.plank(0, 8, 2, 0)),
                BIG + 4, 1, 128, BIG + 6);
        dueAll("t 1, 2, 20, 21", all(x.plank(0, 1, 1, 1), x.plank(0, 1, 2, 1), x.plank(0, 1, 20, 1), x.plank(0, 1, 21, 1)),
                BIG + 4, 2, 20, BIG + 6);
        dueAll("part -1, 0, 1, 2", all(x.plank(5, 1, 20, -1), x.plank(5, 1, 20, 0), x.plank(5, 1, 20, 1), x.plank(5, 1, 20, 2)),
                BIG + 2, 19, 20, BIG + 2);
        dueAll("CELL -1, 24, 25", all(x.plank(-1, 0, 2, 0), x.plank(24, 0, 2, 0), x.plank(24, 0, 2, 1), x.plank(25, 0, 2, 0)),
                BIG + 1, 0, 1, BIG + 1);
        // With a plank he falls: he is 7 STEPS on, in 23, without one, and in 0 with seven.
        dueAll("one of 7", all(x.plank(22, 7, 2, 0), x.plank(22, 7, 2, 1), x.plank(22, 7, 20, 0), x.plank(22, 7, 20, 1)),
                7, 128, 7L * 47045881L, 1280000000L);
        dueAll("none of 7, and less", all(x.plank(23, 7, 2, 0), x.plank(23, 7, 2, 1), x.plank(24, 7, 2, 0), x.plank(24, 7, 2, 1)), 1, 128, 0, 1);
        dueAll("seven of 7", all(x.plank(0, 7, 20, 0), x.plank(0, 7, 20, 1)), 1, 1280000000L);
        dueAll("none of 7", all(x.plank(23, 7, 20, 0), x.plank(23, 7, 20, 1)), 893871739L, 1280000000L);
        about = "LOAD is 5 more";
        dueAll("10 held, and 9", all(kingdomOf("mm4;").plank(5, 1, 2, 1), kingdomOf("mm3;").plank(5, 1, 2, 1)), 1, 2);
        dueAll("sure, and never", all(kingdomOf("mm4;").plank(5, 1, 2, 0), kingdomOf("mm0;w07;").plank(5, 1, 2, 0)), 1, 0);
        dueAll("with 99 FALLS he falls", all(kingdomOf("mm0;w20;s60;s40;w05;").plank(0, 1, 3, 0), kingdomOf("mm0;w20;s60;s40;w05;").plank(0, 1, 3, 1)),
                1, 3);
        about = "MEAN: of HEIGHTS: a fraction";
        SovereignInBarrow mean = new SovereignInBarrow();
        dueAll("0, part -1, 2", all(mean.mean(0), mean.mean(1), mean.mean(-1), mean.mean(2)), 0, 1, BIG + 2, BIG + 2);
        mean.heaps(24, 1);
        dueAll("1", all(mean.mean(0), mean.mean(1)), 1, 25);
        for (int cell = 0; cell < 25; cell++) {
            mean.heaps(cell, 9);
        }
        dueAll("225", all(mean.mean(0), mean.mean(1)), 9, 1);
        mean.heaps(0, 8);
        dueAll("224", all(mean.mean(0), mean.mean(1)), 224, 25);
        mean.heaps(0, 4);
        dueAll("220", all(mean.mean(0), mean.mean(1)), 44, 5);
    }

    private static void rows() {
        about = "A ROW of numbers (0 .. 99; 16 at most)";
        SovereignInBarrow x = new SovereignInBarrow();
        dueAll("-1, 0, 99, 100", all(x.row(-1), x.row(0), x.row(99), x.row(100), x.count(6)), -4, 1, 2, -6, 2);
        for (int n = 3; n <= 16; n++) {
            due("number " + n, x.row(0), n);
        }
        dueAll("the 17th", all(x.row(0), x.count(6), x.clear(), x.clear(), x.row(0)), -6, 16, 16, 0, 1);
        about = "JUDGED: HEIGHTS of CELLS 0, 1, ..: the first that is not so; -9";
        int[] differs = {-9, 0, 1, 14, 15};
        for (int place : differs) {
            SovereignInBarrow y = kingdomOf("c159;c168;");
            for (int i = 0; i < 16; i++) {
                y.row((i == 15 ? 9 : 0) + (i == place ? 1 : 0));
            }
            dueAll("number " + place, all(y.count(6), y.judge(), y.count(6), y.judge()), 16, place, 0, -9);
        }
        SovereignInBarrow several = kingdomOf("c012;");
        several.row(0);
        several.row(1);
        several.row(1);
        dueAll("the first of several", all(several.judge(), several.count(6)), 1, 0);
        dueAll("no ROW", all(several.judge(), several.clear()), -9, 0);
    }

    private static SovereignInBarrow withRow(String kingdom, int... numbers) {
        SovereignInBarrow x = kingdomOf(kingdom);
        for (int number : numbers) {
            x.row(number);
        }
        return x;
    }

    private static void whoPushed() {
        about = "WHO PUSHED: a ROW tells where it is behind 0, 1, .. STEPS";
        String kingdom = "mm0;md0;";
        int[] down = {0, 5, 10, 15, 20, 21, 22, 23, 24, 24, 24, 24, 24, 24, 24, 24};
        int[] right = {0, 1, 2, 3, 4, 9, 14, 19, 24, 24, 24, 24, 24, 24, 24, 24};
        due("16 by the MINISTER", withRow(kingdom, down).whoPushed(0), 1);
        due("16 by the DEAF", withRow(kingdom, right).whoPushed(0), 2);
        due("16 by KINDS m, r", withRow(kingdom, down).whoPushed(1), 1 | 1 << 4);
        down[15] = 23;
        right[0] = 1;
        dueAll("the last, and the first, not so", all(withRow(kingdom, down).whoPushed(0), withRow(kingdom, right).whoPushed(0),
                withRow(kingdom, down).whoPushed(1), withRow(kingdom, right).whoPushed(1)), 0, 0, 0, 0);
        dueAll("no ROW", all(withRow(kingdom).whoPushed(0), withRow(kingdom).whoPushed(1)), 3, 63);
        dueAll("where it is alone", all(withRow(kingdom, 0).whoPushed(0), withRow(kingdom, 0).whoPushed(1), withRow(kingdom, 99).whoPushed(0)), 3, 63, 0);
        about = "KINDS (1; 0 without MINISTERS)";
        dueAll("without MINISTERS", all(withRow("g01;", 0, 0).whoPushed(0), withRow("g01;", 0, 0).whoPushed(1)), 0, 0);
        about = "WHO PUSHED by the ROW (it stays)";
        SovereignInBarrow x = withRow(kingdom, 0, 5);
        dueAll("it stays", all(x.whoPushed(0), x.whoPushed(1), x.count(6), x.whoPushed(0)), 1, 1 | 2 | 1 << 4 | 1 << 5, 2, 1);
    }

    private static void lots() {
        about = "LOTS with a seed z: n days (1 .. 20)";
        SovereignInBarrow x = kingdomOf("mr0;");
        dueAll("0, 1, 20, 21", all(x.lots(0, 5, 0), x.lots(1, 5, 0), x.lots(20, 5, 0), x.lots(21, 5, 0)), -4, 1, 20, -6);
        dueAll("what -1, 0, 1, 2", all(x.lots(1, 5, -1), x.lots(1, 5, 0), x.lots(1, 5, 1), x.lots(1, 5, 2)), -2, 1, 0, -2);
        about = "then 12 STEPS: how often it is AT its GOAL at the end; all FALLS more";
        // The four fall first if WEIGHT is above 6; then the RUNNER needs 8 STEPS at most: 12 together.
        SovereignInBarrow five = kingdomOf("mm0;mm0;mm0;mm0;mr0;");
        for (int z = 0; z < 400; z++) {
            due("lots(20, " + z + ", 0)", five.lots(20, z, 0), 20);
        }
        SovereignInBarrow one = kingdomOf("mm0;");
        for (int z = -200; z < 200; z++) {
            due("lots(1, " + z + ", 1)", one.lots(1, z, 1), fallsOfOne(z));
        }
        SovereignInBarrow most = kingdomOf("mm0;w20;s60;s30;");
        for (int z = 0; z < 400; z++) {
            due("99 at most: lots(1, " + z + ", 1)", most.lots(1, z, 1), Math.min(9, fallsOfOne(z)));
        }
        about = "z becomes z times 1664525 and 1013904223 (an int); (z without its sign's bit by 256, cut) modulo m";
        int[] seeds = {Integer.MIN_VALUE, Integer.MIN_VALUE + 1, -1, 0, 1, Integer.MAX_VALUE};
        for (int z : seeds) {
            due("lots(1, " + z + ", 1)", one.lots(1, z, 1), fallsOfOne(z));
        }
    }

    /** A MINISTER who holds 6 falls 12 times in a day if WEIGHT is above that and the GOAL elsewhere. */
    private static int fallsOfOne(int z) {
        BigInteger seed = BigInteger.valueOf(z);
        BigInteger bits = BigInteger.ONE.shiftLeft(32);
        int[] drawn = new int[3];
        for (int i = 0; i < 3; i++) {
            seed = seed.multiply(BigInteger.valueOf(1664525)).add(BigInteger.valueOf(1013904223)).mod(bits);
            drawn[i] = seed.clearBit(31).shiftRight(8).mod(BigInteger.valueOf(i < 2 ? 25 : 11)).intValue();
        }
        return drawn[0] != drawn[1] && drawn[2] > 6 ? 12 : 0;
    }

    private static void image() {
        about = "THE IMAGE: all that there is, but it, the ROW (of numbers), letters, REFUSALS; ON from it all is as then";
        SovereignInBarrow x = new SovereignInBarrow();
        dueAll("there is none", all(x.on(), x.count(13), x.image(), x.on(), x.count(13)), -3, 1, 0, 0, 1);
        x.row(3);
        letters(x, "w06");
        x.goal(25);
        x.image();
        x.row(4);
        letters(x, ";");
        x.goal(25);
        dueAll("on()", all(x.on(), x.count(6), x.count(7), x.count(11)), 0, 2, 4, 2);
        dueAll("the letters are as they are", all(x.kingdom(), x.count(4)), 1, 6);
        dueAll("the ROW is as it is", all(x.judge(), x.clear()), 0, 0);
        about = "ON from it: STEP (the last image alone, as often as one likes)";
        SovereignInBarrow y = kingdomOf("mm0;mm1;");
        y.image();
        y.goes(3);
        dueAll("the image of 3", all(y.image(), y.goes(2), y.on(), y.count(2), y.goes(1), y.on(), y.count(2)), 3, 21, 3, 15, 20, 3, 15);
        about = "all is as then: MINISTERS that came, and the WAY it went last";
        SovereignInBarrow z = kingdomOf("md0;b12;");
        z.image();
        tellAll(z, "mm0;x0;mm1;mm2;mm3;s01;");
        dueAll("five, then one", all(z.count(0), z.on(), z.count(0), z.minister(1, 0), z.pushing(1), z.then(0, 1)), 5, 0, 1, -1, 1, 0);
        dueAll("room again", all(told(z, "mm0;mm1;mm2;mm3;"), z.count(0), told(z, "mm4;")), 4, 5, -2000);
    }

    private static void count() {
        about = "-9 for another what";
        SovereignInBarrow x = kingdomOf("mm0;");
        dueAll("-1, 0, 7, 8", all(x.count(-1), x.count(0), x.count(7), x.count(8)), -9, 1, 0, -9);
        dueAll("9, 10, 11, 16, 17", all(x.count(9), x.count(10), x.count(11), x.count(16), x.count(17)), -9, -9, 0, 0, -9);
        dueAll("far away", all(x.count(Integer.MIN_VALUE), x.count(Integer.MAX_VALUE)), -9, -9);
        about = "11 .. 16 REFUSALS -1 .. -6";
        x.stands(25);
        x.far(4);
        x.far(4);
        x.on();
        x.on();
        x.on();
        for (int i = 0; i < 4; i++) {
            x.goes(0);
        }
        for (int i = 0; i < 6; i++) {
            x.goes(61);
        }
        dueAll("how many", all(x.count(11), x.count(12), x.count(13), x.count(14), x.count(15), x.count(16)), 1, 2, 3, 4, 0, 6);
        about = "Of longs they are 4000000000000000000 less them (-1 as 4000000000000000001)";
        dueAll("longs", all(x.plank(25, 0, 2, 0), x.plank(0, 0, 2, 2), x.plank(0, -1, 2, 0), x.plank(0, 8, 2, 0), x.mean(2)),
                4000000000000000001L, 4000000000000000002L, 4000000000000000004L, 4000000000000000006L, 4000000000000000002L);
        dueAll("are counted", all(x.count(11), x.count(12), x.count(14), x.count(16)), 2, 4, 5, 7);
    }

    public static void main(String[] args) {
        nowAndNext();
        inMind();
        there();
        down();
        stuck();
        climb();
        push();
        take();
        flat();
        mostWeight();
        start();
        bestKind();
        far();
        easy();
        twoMinisters();
        plank();
        rows();
        whoPushed();
        lots();
        image();
        count();
        end("the boundaries of what is thought of hold");
    }
}
