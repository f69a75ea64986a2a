/** Each promise of the document by itself: what is ordinary, the edges, what is refused. */
public final class PromiseTest extends Checks {
    private static void newObject() {
        SovereignInBarrow x = new SovereignInBarrow();
        for (int cell = 0; cell < 25; cell++) {
            due("cell(" + cell + ", 0)", x.cell(cell, 0), 0);
            due("cell(" + cell + ", 1)", x.cell(cell, 1), 0);
        }
        long[] counts = new long[8];
        for (int what = 0; what < 8; what++) {
            counts[what] = x.count(what);
        }
        dueAll("count(0 .. 7)", counts, 0, 0, 0, 24, 5, 0, 0, 0);
        due("the WAY it went", kingdomOf("md0;").pushing(1), 1);
        due("on()", x.on(), -3);
    }

    private static void letter() {
        SovereignInBarrow x = new SovereignInBarrow();
        dueAll("letter", all(x.letter(0), x.letter(255)), 1, 2);
        no(x, "letter(-1)", -4, () -> x.letter(-1));
        no(x, "letter(256)", -6, () -> x.letter(256));
        due("letters", x.count(7), 2);
        for (int i = 3; i <= 96; i++) {
            due("letter", x.letter('c'), i);
        }
        no(x, "letter('c'), the 97th", -6, () -> x.letter('c'));
        no(x, "letter(-1), the 97th", -4, () -> x.letter(-1));
        due("letters", x.count(7), 96);
        due("kingdom()", x.kingdom(), -1000);
        due("letters", x.count(7), 0);
    }

    private static void kingdom() {
        SovereignInBarrow x = new SovereignInBarrow();
        due("kingdom()", told(x, "c017;k02;mr3;md4;b06;g08;w09;x0;s01;"), 9);
        dueAll("all of it", all(x.cell(1, 0), x.cell(2, 1), x.minister(0, 0), x.minister(1, 1), x.count(3), x.count(4)),
                7, 1, 4, 4, 8, 9);
        due("who pushes", x.then(0, 1), 1);
        due("where it is", x.count(2), 7);
        due("kingdom(): a KERB told again", told(x, "k02;"), 1);
        due("cell(2, 1)", x.cell(2, 1), 0);
        due("kingdom(): 32 STATEMENTS", told(x, "x0;".repeat(32)), 32);
        due("kingdom() of no letters, after others", x.kingdom(), -1000);
        String[] texts = {
            "", "z", ";", "c", "c0", "c001", "c001x", "mM0;", "mm", "mm0", "mm0:", "x00;", "s1;", "mm0;;", "mm0;q",
            "c250;z", "k0a;", "w1/;", "b0:;", "C001;"};
        int[] places = {0, 0, 0, 1, 2, 4, 4, 1, 2, 3, 3, 2, 2, 4, 4, 5, 2, 2, 2, 0};
        for (int i = 0; i < texts.length; i++) {
            due("kingdom() of '" + texts[i] + "'", told(new SovereignInBarrow(), texts[i]), -1000 - places[i]);
        }
        due("kingdom() of 96 letters and no end", told(new SovereignInBarrow(), "x0;".repeat(31) + "c00"), -1096);
        kingdomNotAsItMustBe();
        nothingComesWithAFault();
    }

    private static void kingdomNotAsItMustBe() {
        String[] texts = {
            "c250;", "k25;", "b25;", "g25;", "w21;", "s00;", "s61;", "x0;", "x0;mm0;", "mm0;x1;",
            "mm0;mm0;mm0;mm0;mm0;mm0;", "w20;c249;w99;", "c999;w99;"};
        int[] places = {0, 0, 0, 0, 0, 0, 0, 0, 0, 4, 20, 9, 0};
        for (int i = 0; i < texts.length; i++) {
            due("kingdom() of '" + texts[i] + "'", told(new SovereignInBarrow(), texts[i]), -2000 - places[i]);
        }
        SovereignInBarrow x = new SovereignInBarrow();
        for (int i = 0; i < 16; i++) {
            due("kingdom(): s60", told(x, "s60;"), 1);
        }
        due("STEP above 999", told(x, "w07;s20;s20;"), -2008);
        due("STEP 999", told(x, "s20;s19;"), 2);
        due("STEP above 999", told(x, "s01;"), -2000);
        due("STEP", x.count(1), 999);
    }

    private static void nothingComesWithAFault() {
        SovereignInBarrow x = new SovereignInBarrow();
        due("kingdom()", told(x, "c019;k02;mm0;b06;g08;w09;s01;x5;"), -2029);
        due("kingdom()", told(x, "c019;k02;mm0;b06;g08;w09;s01;x"), -1030);
        dueAll("nothing of it", all(x.cell(1, 0), x.cell(2, 1), x.count(0), x.count(1), x.count(2), x.count(3), x.count(4)),
                0, 0, 0, 0, 0, 24, 5);
        dueAll("nothing counted", all(x.count(7), x.count(11), x.count(12), x.count(14), x.count(16)), 0, 0, 0, 0, 0);
    }

    private static void minister() {
        SovereignInBarrow x = kingdomOf("mm3;ml3;ms3;md3;mr3;x1;");
        for (int m = 0; m < 5; m++) {
            due("minister(" + m + ", 0)", x.minister(m, 0), m);
            due("minister(" + m + ", 1)", x.minister(m, 1), 3);
            due("minister(" + m + ", 2)", x.minister(m, 2), 0);
        }
        dueAll("places", all(x.minister(0, 3), x.minister(1, 3), x.minister(2, 3), x.minister(3, 3), x.minister(4, 3)),
                0, 4, 1, 2, 3);
        dueAll("hold", all(x.minister(0, 4), x.minister(1, 4), x.minister(2, 4), x.minister(3, 4), x.minister(4, 4)),
                9, 11, 9, 8, 22);
        SovereignInBarrow o = kingdomOf("mo9;w20;s03;");
        dueAll("minister(0, 0 .. 4)",
                all(o.minister(0, 0), o.minister(0, 1), o.minister(0, 2), o.minister(0, 3), o.minister(0, 4)), 5, 9, 3, 0, 17);
        no(x, "minister(5, 0)", -1, () -> x.minister(5, 0));
        no(x, "minister(-1, 9)", -1, () -> x.minister(-1, 9));
        no(x, "minister(0, 5)", -2, () -> x.minister(0, 5));
        no(x, "minister(0, -1)", -2, () -> x.minister(0, -1));
    }

    private static void cell() {
        SovereignInBarrow x = kingdomOf("c244;k23;");
        dueAll("cell", all(x.cell(24, 0), x.cell(24, 1), x.cell(23, 0), x.cell(23, 1)), 4, 0, 0, 1);
        no(x, "cell(25, 9)", -1, () -> x.cell(25, 9));
        no(x, "cell(-1, 0)", -1, () -> x.cell(-1, 0));
        no(x, "cell(0, 2)", -2, () -> x.cell(0, 2));
        no(x, "cell(0, -1)", -2, () -> x.cell(0, -1));
    }

    private static void pushing() {
        SovereignInBarrow x = kingdomOf("b12;");
        int[] goals = {2, 14, 22, 10, 12, 4, 20};
        int[] signs = {0, 1, 2, 3, -9, 0, 2};
        for (int i = 0; i < goals.length; i++) {
            x.goal(goals[i]);
            due("pushing(0), GOAL " + goals[i], x.pushing(0), signs[i]);
        }
        dueAll("without MINISTERS", all(x.pushing(1), x.pushing(2)), -9, -9);
        SovereignInBarrow load = kingdomOf("mm0;c003;c055;k05;");
        due("LOAD up, with a KERB", load.pushing(2), 15);
        load.heaps(5, 0);
        due("LOAD down, with a KERB", load.pushing(2), 9);
        load.goal(0);
        dueAll("AT the GOAL", all(load.pushing(0), load.pushing(1), load.pushing(2)), -9, -9, -9);
        waysOfKinds();
        no(x, "pushing(3)", -2, () -> x.pushing(3));
        no(x, "pushing(-1)", -2, () -> x.pushing(-1));
    }

    /** For STEPS 1 .. 12, in which it does not move: WEIGHT is above what each can hold. */
    private static void waysOfKinds() {
        String[] kinds = {"mm0;", "ml0;", "ms0;", "md0;", "mo0;"};
        long[][] ways = {
            {0, 0, 0, 0, 0, 0, 0, 0, 0, 0, 0, 0},
            {0, 0, 3, 0, 0, 3, 0, 0, 3, 0, 0, 3},
            {1, 1, 1, 0, 1, 1, 1, 0, 1, 1, 1, 0},
            {1, 1, 1, 1, 1, 1, 1, 1, 1, 1, 1, 1},
            {2, 2, 1, 2, 2, 1, 2, 2, 1, 2, 2, 1}};
        for (int k = 0; k < kinds.length; k++) {
            SovereignInBarrow x = kingdomOf(kinds[k] + "w20;b12;g02;");
            long[] got = new long[12];
            for (int i = 0; i < 12; i++) {
                got[i] = x.pushing(1);
                x.goes(1);
            }
            dueAll("WAYS of " + kinds[k], got, ways[k]);
        }
        due("RUNNER", kingdomOf("mr0;w20;b12;g02;s02;").pushing(1), 0);
        dueAll("no CELL the WAY it went", all(kingdomOf("ms0;b14;").pushing(1), kingdomOf("md0;b14;").pushing(1)), 2, 2);
        due("OPPOSITE, no CELL against", kingdomOf("mo0;b24;g04;").pushing(1), 0);
        SovereignInBarrow edge = kingdomOf("ml0;b04;g24;s02;b04;");
        dueAll("LEFT ONE, no CELL", all(edge.pushing(1), edge.pushing(2), edge.goes(1), edge.count(5)), 1, -9, 4, 0);
    }

    private static void heaps() {
        SovereignInBarrow x = new SovereignInBarrow();
        dueAll("heaps", all(x.heaps(3, 9), x.heaps(3, 4), x.heaps(3, 0), x.cell(3, 0), x.heaps(24, 1), x.cell(24, 0)),
                0, 9, 4, 0, 0, 1);
        no(x, "heaps(25, -1)", -1, () -> x.heaps(25, -1));
        no(x, "heaps(-1, 10)", -1, () -> x.heaps(-1, 10));
        no(x, "heaps(24, -1)", -4, () -> x.heaps(24, -1));
        no(x, "heaps(24, 10)", -6, () -> x.heaps(24, 10));
        due("cell(24, 0)", x.cell(24, 0), 1);
    }

    private static void kerbs() {
        SovereignInBarrow x = new SovereignInBarrow();
        dueAll("kerbs", all(x.kerbs(0), x.cell(0, 1), x.kerbs(24), x.kerbs(0), x.cell(0, 1), x.far(2)), 1, 1, 1, 0, 0, 1);
        no(x, "kerbs(25)", -1, () -> x.kerbs(25));
        no(x, "kerbs(-1)", -1, () -> x.kerbs(-1));
    }

    private static void stands() {
        SovereignInBarrow x = new SovereignInBarrow();
        dueAll("stands", all(x.stands(24), x.stands(3), x.count(2)), 0, 24, 3);
        no(x, "stands(25)", -1, () -> x.stands(25));
        no(x, "stands(-1)", -1, () -> x.stands(-1));
        due("count(2)", x.count(2), 3);
        SovereignInBarrow d = kingdomOf("mm0;s01;md0;x0;");
        d.stands(2);
        due("the WAY it went stays", d.pushing(1), 2);
    }

    private static void goal() {
        SovereignInBarrow x = new SovereignInBarrow();
        dueAll("goal", all(x.goal(0), x.goal(7), x.count(3)), 24, 0, 7);
        no(x, "goal(25)", -1, () -> x.goal(25));
        no(x, "goal(-1)", -1, () -> x.goal(-1));
        due("count(3)", x.count(3), 7);
    }

    private static void weighs() {
        SovereignInBarrow x = new SovereignInBarrow();
        dueAll("weighs", all(x.weighs(20), x.weighs(0), x.weighs(11), x.count(4)), 5, 20, 0, 11);
        no(x, "weighs(-1)", -4, () -> x.weighs(-1));
        no(x, "weighs(21)", -6, () -> x.weighs(21));
        due("count(4)", x.count(4), 11);
    }

    private static void steps() {
        SovereignInBarrow x = kingdomOf("mm0;mm1;mm2;");
        dueAll("steps", all(x.steps(0), x.steps(2), x.steps(1), x.steps(1)), 1, 1, 0, 0);
        dueAll("THE ROW", all(x.minister(0, 3), x.minister(1, 3), x.minister(2, 3)), 0, 2, 1);
        no(x, "steps(3)", -1, () -> x.steps(3));
        no(x, "steps(-1)", -1, () -> x.steps(-1));
        due("one alone", kingdomOf("mm0;").steps(0), 0);
    }

    private static void turn() {
        SovereignInBarrow x = kingdomOf("mm3;w20;s02;");
        dueAll("turn", all(x.turn(0, 5, 9), x.turn(0, 0, 0), x.minister(0, 0), x.minister(0, 1), x.minister(0, 2)),
                3, 59, 0, 0, 2);
        no(x, "turn(1, 6, -1)", -1, () -> x.turn(1, 6, -1));
        no(x, "turn(-1, 0, 0)", -1, () -> x.turn(-1, 0, 0));
        no(x, "turn(0, 6, -1)", -2, () -> x.turn(0, 6, -1));
        no(x, "turn(0, -1, 10)", -2, () -> x.turn(0, -1, 10));
        no(x, "turn(0, 1, -1)", -4, () -> x.turn(0, 1, -1));
        no(x, "turn(0, 1, 10)", -6, () -> x.turn(0, 1, 10));
        dueAll("nothing turned", all(x.minister(0, 0), x.minister(0, 1)), 0, 0);
    }

    private static void goes() {
        SovereignInBarrow x = kingdomOf("mm0;");
        dueAll("goes", all(x.goes(1), x.goes(3), x.goes(2), x.goes(2), x.goes(60), x.count(1)), 5, 20, 22, 24, 24, 68);
        no(x, "goes(0)", -4, () -> x.goes(0));
        no(x, "goes(61)", -6, () -> x.goes(61));
        no(x, "goes(2147483647)", -6, () -> x.goes(2147483647));
        for (int i = 0; i < 15; i++) {
            x.goes(60);
        }
        no(x, "goes(32) at 968", -6, () -> x.goes(32));
        dueAll("goes(31) at 968", all(x.goes(31), x.count(1)), 24, 999);
        no(x, "goes(1) at 999", -6, () -> x.goes(1));
        due("then(60, 0) at 999", x.then(60, 0), 24);
        SovereignInBarrow kerb = kingdomOf("mm0;mr0;k05;");
        dueAll("a KERB", all(kerb.goes(1), kerb.minister(0, 2), kerb.minister(0, 3), kerb.goes(1), kerb.minister(1, 2)),
                0, 1, 1, 5, 0);
        SovereignInBarrow falls = kingdomOf("mm0;w20;");
        dueAll("99 FALLS at most", all(falls.goes(60), falls.goes(39), falls.count(5), falls.goes(1), falls.count(5)),
                0, 0, 99, 0, 99);
        SovereignInBarrow just = kingdomOf("mm0;w03;c051;c153;");
        dueAll("LOAD just held", all(just.goes(1), just.count(5), just.goes(2), just.count(5)), 5, 0, 10, 1);
    }

    private static void then() {
        SovereignInBarrow x = kingdomOf("mm0;mr0;k05;");
        dueAll("then(0 .. 9, 0)", path(x, 9), 0, 0, 5, 10, 15, 20, 21, 22, 23, 24);
        dueAll("then(.., 1)", all(x.then(0, 1), x.then(1, 1), x.then(60, 1)), 0, 1, 1);
        dueAll("then(.., 2)", all(x.then(0, 2), x.then(1, 2), x.then(60, 2)), 0, 1, 1);
        due("without MINISTERS", new SovereignInBarrow().then(3, 1), -9);
        dueAll("nothing happened", all(x.count(1), x.count(2), x.count(5)), 0, 0, 0);
        no(x, "then(-1, 3)", -4, () -> x.then(-1, 3));
        no(x, "then(61, 3)", -6, () -> x.then(61, 3));
        no(x, "then(60, 3)", -2, () -> x.then(60, 3));
        no(x, "then(0, -1)", -2, () -> x.then(0, -1));
        dueAll("SPEAKER", path(kingdomOf("ms0;"), 8), 0, 1, 2, 3, 8, 13, 18, 23, 24);
        dueAll("DEAF", path(kingdomOf("md0;"), 8), 0, 1, 2, 3, 4, 9, 14, 19, 24);
        dueAll("LEFT ONE", path(kingdomOf("ml0;"), 10), 0, 5, 10, 11, 16, 21, 16, 21, 22, 17, 22);
        dueAll("OPPOSITE", path(kingdomOf("mo0;b12;g02;"), 6), 12, 17, 22, 23, 18, 23, 24);
    }

    private static void fallsThen() {
        SovereignInBarrow x = kingdomOf("mm0;mm1;w20;s01;");
        dueAll("fallsThen", all(x.fallsThen(0, 0), x.fallsThen(1, 0), x.fallsThen(1, 1), x.fallsThen(0, 60), x.fallsThen(1, 60)),
                1, 0, 1, 31, 30);
        due("nothing happened", x.count(5), 1);
        no(x, "fallsThen(2, -1)", -1, () -> x.fallsThen(2, -1));
        no(x, "fallsThen(-1, 0)", -1, () -> x.fallsThen(-1, 0));
        no(x, "fallsThen(0, -1)", -4, () -> x.fallsThen(0, -1));
        no(x, "fallsThen(0, 61)", -6, () -> x.fallsThen(0, 61));
        x.goes(60);
        x.goes(60);
        x.goes(60);
        due("99 at most", x.fallsThen(0, 60), 99);
    }

    private static void comes() {
        SovereignInBarrow x = kingdomOf("mm0;");
        dueAll("comes", all(x.comes(0), x.comes(20), x.comes(24), x.comes(1), x.comes(-1)), 0, 4, 8, -9, 8);
        x.goal(0);
        due("THERE at once", x.comes(-1), 0);
        due("THERE without MINISTERS", new SovereignInBarrow().comes(-1), -9);
        due("an OPPOSITE never comes", kingdomOf("mo0;b24;g00;").comes(-1), -9);
        SovereignInBarrow late = kingdomOf("mo1;mo2;ms0;c064;c154;c231;s10;");
        dueAll("THERE behind 61 STEPS, and 60", all(late.comes(-1), late.comes(24), late.goes(1), late.comes(-1), late.comes(24)),
                -9, -9, late.count(2), 60, 60);
        no(x, "comes(25)", -1, () -> x.comes(25));
        no(x, "comes(-2)", -1, () -> x.comes(-2));
    }

    private static void down() {
        SovereignInBarrow x = kingdomOf("mm0;mr0;ml0;k05;x0;x1;");
        // THE ROW: l, m, r.
        dueAll("down", all(x.down(2), x.down(0), x.down(1), x.down(-1)), 1, 2, -9, 2);
        x.goes(1);
        dueAll("more than now", all(x.down(2), x.down(0), x.down(-1)), -9, 1, 0);
        SovereignInBarrow full = kingdomOf("mm0;w20;s60;s39;");
        dueAll("with 99 no more", all(full.down(0), full.down(-1)), -9, -9);
        due("without MINISTERS", new SovereignInBarrow().down(-1), -9);
        due("WEIGHT just held", kingdomOf("mm0;w06;").down(0), -9);
        no(x, "down(3)", -1, () -> x.down(3));
        no(x, "down(-2)", -1, () -> x.down(-2));
    }

    private static void stuck() {
        due("without MINISTERS", new SovereignInBarrow().stuck(), 0);
        due("AT the GOAL", kingdomOf("mm0;").stuck(), 8);
        due("at a KERB", kingdomOf("mm0;k15;").stuck(), 2);
        due("never", kingdomOf("mo0;w00;b24;g00;").stuck(), -9);
        // It stays for 11 STEPS, until the SPEAKER's turn falls on one that 4 divides.
        SovereignInBarrow eleven = kingdomOf("md1;md1;ms2;k01;k19;");
        dueAll("eleven STEPS", all(eleven.comes(5), eleven.then(11, 0), eleven.stuck()), 12, 0, 19);
        SovereignInBarrow twelve = kingdomOf("s03;md1;md1;ms2;md1;md1;k01;");
        dueAll("twelve STEPS", all(twelve.comes(5), twelve.then(12, 0), twelve.stuck()), 13, 0, 0);
        due("WEIGHT just held", kingdomOf("mm0;w06;").stuck(), 8);
        SovereignInBarrow late = kingdomOf("mo1;mo2;ms0;c064;c154;c231;s10;");
        dueAll("behind 61 STEPS, and 60", all(late.stuck(), late.goes(1), late.stuck()), -9, late.count(2), 60);
    }

    private static void climb() {
        SovereignInBarrow x = kingdomOf("c053;c063;c071;c084;c094;k07;k00;");
        dueAll("climb", all(x.climb(24, 0), x.climb(24, 1), x.climb(0, 1), x.climb(1, 1), x.climb(7, 1), x.climb(5, 0)),
                1, 3, 0, 0, 3, 3);
        x.heaps(7, 2);
        dueAll("climb", all(x.climb(24, 0), x.climb(24, 1), x.climb(6, 0)), 2, 3, 3);
        x.heaps(0, 9);
        dueAll("from above", all(x.climb(5, 0), x.climb(24, 0)), 0, 0);
        // Only the way round by the last row goes to 2 without a climb, over the KERB in it.
        SovereignInBarrow round = kingdomOf("b00;c011;c061;c111;c161;c031;c081;c131;c181;c231;k22;");
        dueAll("round", all(round.climb(2, 0), round.climb(2, 1), round.climb(24, 0)), 0, 1, 1);
        no(x, "climb(25, 2)", -1, () -> x.climb(25, 2));
        no(x, "climb(-1, 0)", -1, () -> x.climb(-1, 0));
        no(x, "climb(0, 2)", -2, () -> x.climb(0, 2));
        no(x, "climb(0, -1)", -2, () -> x.climb(0, -1));
    }

    private static void push() {
        dueAll("push", all(kingdomOf("mm0;mr0;mr5;k05;").push(), kingdomOf("mm0;mm1;").push()), 1, -9);
        due("never as it is", kingdomOf("mo9;mm0;").push(), 1);
        due("the least", kingdomOf("mm0;mo9;mm0;x0;x2;").push(), 0);
        due("without MINISTERS", new SovereignInBarrow().push(), -9);
        due("AT the GOAL", kingdomOf("mm0;mr0;g00;").push(), -9);
        SovereignInBarrow x = kingdomOf("mm0;mr0;k05;");
        x.push();
        due("nothing changed", x.then(0, 1), 0);
    }

    private static void take() {
        SovereignInBarrow x = kingdomOf("mm0;k05;");
        dueAll("take", all(x.take(), x.cell(5, 1)), 5, 1);
        due("two of them", kingdomOf("mm0;k05;k15;").take(), -9);
        due("not sooner", kingdomOf("mm0;mr0;k05;k10;").take(), -9);
        due("sooner", kingdomOf("mm0;mr0;k15;").take(), 15);
        due("no KERBS", kingdomOf("mm0;w20;").take(), -9);
        dueAll("the first CELL and the last", all(kingdomOf("mm0;b05;g00;k00;").take(), kingdomOf("mm0;k24;").take()), 0, 24);
        due("soonest: 8 STEPS by 8, 9 by 4", kingdomOf("ms1;k04;k08;").take(), 8);
        due("the least: 14 STEPS by 5 and by 12, 17 as it is", kingdomOf("ml0;k05;k12;").take(), 5);
    }

    private static void flat() {
        SovereignInBarrow x = kingdomOf("mm0;c051;");
        dueAll("flat", all(x.flat(), x.cell(5, 0)), 5, 1);
        due("two hills", kingdomOf("mm0;c051;c153;").flat(), -9);
        due("a hill of two CELLS", kingdomOf("mm0;c101;c151;").flat(), -9);
        due("sooner", kingdomOf("mm0;mr0;c151;").flat(), 15);
        due("soonest: 8 STEPS by 8, 9 by 4", kingdomOf("ms4;c082;c043;").flat(), 8);
        due("the least: 11 STEPS by 17 and by 21", kingdomOf("ml2;c214;c172;").flat(), 17);
        due("nothing to be sooner", kingdomOf("mm0;").flat(), -9);
        dueAll("the first CELL and the last", all(kingdomOf("mm0;b05;g00;c001;").flat(), kingdomOf("mm0;c241;").flat()), 0, 24);
    }

    private static void mostWeight() {
        dueAll("mostWeight", all(kingdomOf("mm0;").mostWeight(), kingdomOf("mr9;").mostWeight(),
                kingdomOf("mm9;c052;").mostWeight(), kingdomOf("mm9;c055;").mostWeight(), kingdomOf("mm9;c056;").mostWeight()),
                6, 20, 9, 0, -9);
        dueAll("AT the GOAL, and without MINISTERS", all(kingdomOf("g00;").mostWeight(), kingdomOf("g01;").mostWeight()),
                20, -9);
        SovereignInBarrow x = kingdomOf("mm0;");
        x.mostWeight();
        due("WEIGHT stays", x.count(4), 5);
    }

    private static void start() {
        SovereignInBarrow x = kingdomOf("mm0;");
        dueAll("start", all(x.start(0), x.start(1)), 19, 1);
        x.goal(12);
        dueAll("start", all(x.start(0), x.start(1)), 7, 1);
        x.goal(5);
        dueAll("start", all(x.start(0), x.start(1)), 0, 1);
        x.weighs(7);
        dueAll("start", all(x.start(0), x.start(1)), -9, -9);
        dueAll("without MINISTERS", all(new SovereignInBarrow().start(0), new SovereignInBarrow().start(1)), -9, -9);
        due("where it is stays", x.count(2), 0);
        no(x, "start(2)", -2, () -> x.start(2));
        no(x, "start(-1)", -2, () -> x.start(-1));
    }

    private static void bestKind() {
        SovereignInBarrow x = kingdomOf("mm0;k05;");
        dueAll("bestKind", all(x.bestKind(0, 0), x.bestKind(0, 1), x.minister(0, 0)), 2, 8, 0);
        SovereignInBarrow second = kingdomOf("mm0;mm0;k05;k01;");
        dueAll("bestKind of the second", all(second.bestKind(1, 0), second.bestKind(1, 1)), 4, 9);
        SovereignInBarrow never = kingdomOf("mm0;w20;");
        dueAll("bestKind", all(never.bestKind(0, 0), never.bestKind(0, 1)), -9, -9);
        SovereignInBarrow same = kingdomOf("mr0;");
        dueAll("not only sooner", all(same.bestKind(0, 0), same.bestKind(0, 1)), 0, 8);
        no(x, "bestKind(1, 2)", -1, () -> x.bestKind(1, 2));
        no(x, "bestKind(-1, 0)", -1, () -> x.bestKind(-1, 0));
        no(x, "bestKind(0, 2)", -2, () -> x.bestKind(0, 2));
        no(x, "bestKind(0, -1)", -2, () -> x.bestKind(0, -1));
    }

    private static void far() {
        SovereignInBarrow x = kingdomOf("b07;g15;c033;c093;k05;k07;k16;k12;k08;k00;k20;");
        dueAll("far", all(x.far(0), x.far(1), x.far(2), x.far(3)), 4, 3, 7, 4);
        x.goal(7);
        dueAll("far, AT the GOAL", all(x.far(0), x.far(3)), 0, 1);
        x.heaps(1, 8);
        due("far(1)", x.far(1), 1);
        x.heaps(24, 9);
        due("far(1)", x.far(1), 24);
        due("far(1), all as high", new SovereignInBarrow().far(1), 0);
        no(x, "far(4)", -2, () -> x.far(4));
        no(x, "far(-1)", -2, () -> x.far(-1));
    }

    private static void easy() {
        SovereignInBarrow x = kingdomOf("mm0;b12;k07;c111;");
        due("easy(0)", x.easy(0), 1 << 13 | 1 << 17);
        x.stands(24);
        due("easy(0), AT the GOAL", x.easy(0), 1 << 23 | 1 << 19);
        x.weighs(6);
        due("easy(0), just held", x.easy(0), 1 << 23 | 1 << 19);
        due("easy(0) by the first", kingdomOf("mr0;mm0;w07;x0;").easy(0), 0);
        SovereignInBarrow sure = kingdomOf("mm9;mr0;mr1;mr9;w02;");
        due("easy(1)", sure.easy(1), 15);
        sure.weighs(5);
        due("easy(1)", sure.easy(1), 12);
        SovereignInBarrow clumsy = kingdomOf("mm0;mm0;mm0;w20;x0;");
        dueAll("easy(2)", all(clumsy.easy(2), clumsy.goes(1), clumsy.easy(2), clumsy.goes(2), clumsy.easy(2)), 0, 0, 1, 0, 0);
        SovereignInBarrow none = new SovereignInBarrow();
        dueAll("without MINISTERS", all(none.easy(0), none.easy(1), none.easy(2)), 0, 0, -9);
        no(x, "easy(3)", -2, () -> x.easy(3));
        no(x, "easy(-1)", -2, () -> x.easy(-1));
    }

    private static void two() {
        // The DEAF goes round the KERB at 10, if he pushes first; else both fall at it 11 times.
        SovereignInBarrow x = kingdomOf("mm1;md0;k10;");
        dueAll("two", all(x.two(0, 1, 23), x.two(1, 0, 23), x.two(0, 1, 0), x.two(0, 1, 3)), 10, 10, 0, 0);
        SovereignInBarrow other = kingdomOf("md0;mm1;x0;k10;");
        dueAll("two", all(other.two(0, 1, 23), other.two(1, 0, 23)), 1, 1);
        due("both", kingdomOf("mo2;mo1;mm2;c053;").two(0, 1, 24), 11);
        due("stepping back saves no more than it costs", kingdomOf("mr0;mm0;x0;k05;").two(0, 1, 9), 0);
        due("nor for the lesser", kingdomOf("mm0;mr0;k05;").two(0, 1, 9), 0);
        dueAll("nothing changed", all(x.then(0, 1), x.count(1)), 0, 0);
        no(x, "two(0, 0, -1)", -1, () -> x.two(0, 0, -1));
        no(x, "two(2, 0, 0)", -1, () -> x.two(2, 0, 0));
        no(x, "two(0, 2, 0)", -1, () -> x.two(0, 2, 0));
        no(x, "two(-1, 0, 31)", -1, () -> x.two(-1, 0, 31));
        no(x, "two(0, 1, -1)", -4, () -> x.two(0, 1, -1));
        no(x, "two(0, 1, 31)", -6, () -> x.two(0, 1, 31));
        due("two(0, 1, 30)", x.two(0, 1, 30), 10);
    }

    private static void plank() {
        SovereignInBarrow x = kingdomOf("mm0;");
        dueAll("plank, n 0", all(x.plank(0, 0, 2, 0), x.plank(0, 0, 2, 1), x.plank(1, 0, 2, 0), x.plank(1, 0, 2, 1)), 1, 1, 0, 1);
        dueAll("plank, n 1", all(x.plank(0, 1, 2, 0), x.plank(0, 1, 2, 1), x.plank(5, 1, 20, 0), x.plank(5, 1, 20, 1)), 1, 2, 19, 20);
        dueAll("plank, n 2", all(x.plank(0, 2, 3, 0), x.plank(5, 2, 3, 0), x.plank(10, 2, 3, 0), x.plank(10, 2, 3, 1)), 1, 4, 4, 9);
        dueAll("plank, n 2, cut", all(x.plank(5, 2, 2, 0), x.plank(5, 2, 2, 1)), 1, 2);
        dueAll("plank, n 7", all(x.plank(0, 7, 20, 0), x.plank(0, 7, 20, 1), x.plank(15, 7, 20, 0), x.plank(15, 7, 20, 1)),
                1, 1280000000L, 48013, 256000000L);
        dueAll("below the line, 10 held, and 9", all(kingdomOf("mm4;").plank(5, 1, 2, 1), kingdomOf("mm3;").plank(5, 1, 2, 1)), 1, 2);
        dueAll("just held without", all(kingdomOf("mm0;w06;").plank(5, 1, 3, 0), kingdomOf("mm0;w06;").plank(5, 1, 3, 1)), 2, 3);
        no(x, "plank(25, -1, 1, 2)", -1, () -> x.plank(25, -1, 1, 2));
        no(x, "plank(-1, 0, 2, 0)", -1, () -> x.plank(-1, 0, 2, 0));
        no(x, "plank(0, -1, 21, 2)", -4, () -> x.plank(0, -1, 21, 2));
        no(x, "plank(0, 8, 1, 2)", -4, () -> x.plank(0, 8, 1, 2));
        no(x, "plank(0, 8, 2, 2)", -6, () -> x.plank(0, 8, 2, 2));
        no(x, "plank(0, 7, 21, 2)", -6, () -> x.plank(0, 7, 21, 2));
        no(x, "plank(0, 7, 20, 2)", -2, () -> x.plank(0, 7, 20, 2));
        no(x, "plank(0, 7, 20, -1)", -2, () -> x.plank(0, 7, 20, -1));
    }

    private static void mean() {
        SovereignInBarrow x = new SovereignInBarrow();
        dueAll("mean", all(x.mean(0), x.mean(1)), 0, 1);
        x.heaps(24, 9);
        dueAll("mean", all(x.mean(0), x.mean(1)), 9, 25);
        x.heaps(0, 6);
        dueAll("mean", all(x.mean(0), x.mean(1)), 3, 5);
        no(x, "mean(2)", -2, () -> x.mean(2));
        no(x, "mean(-1)", -2, () -> x.mean(-1));
    }

    private static void whoPushed() {
        SovereignInBarrow x = kingdomOf("mm0;mr0;k05;");
        dueAll("no ROW", all(x.whoPushed(0), x.whoPushed(1)), 3, 63);
        x.row(0);
        x.row(5);
        dueAll("0, 5", all(x.whoPushed(0), x.whoPushed(1), x.count(6)), 2, 16, 2);
        x.clear();
        x.row(0);
        x.row(1);
        dueAll("0, 1", all(x.whoPushed(0), x.whoPushed(1)), 0, 12);
        x.clear();
        x.row(0);
        x.row(0);
        x.row(5);
        dueAll("0, 0, 5", all(x.whoPushed(0), x.whoPushed(1)), 1, 1 | 2 | 32);
        x.clear();
        x.row(1);
        dueAll("1", all(x.whoPushed(0), x.whoPushed(1)), 0, 0);
        dueAll("nothing changed", all(x.then(0, 1), x.minister(0, 0), x.count(1)), 0, 0, 0);
        SovereignInBarrow none = new SovereignInBarrow();
        dueAll("without MINISTERS", all(none.whoPushed(0), none.whoPushed(1)), 0, 0);
        no(x, "whoPushed(2)", -2, () -> x.whoPushed(2));
        no(x, "whoPushed(-1)", -2, () -> x.whoPushed(-1));
    }

    private static void row() {
        SovereignInBarrow x = new SovereignInBarrow();
        dueAll("row", all(x.row(0), x.row(99), x.count(6)), 1, 2, 2);
        no(x, "row(-1)", -4, () -> x.row(-1));
        no(x, "row(100)", -6, () -> x.row(100));
        for (int i = 3; i <= 16; i++) {
            due("row", x.row(0), i);
        }
        no(x, "row(0), the 17th", -6, () -> x.row(0));
        no(x, "row(-1), the 17th", -4, () -> x.row(-1));
        due("count(6)", x.count(6), 16);
    }

    private static void judge() {
        SovereignInBarrow x = kingdomOf("c012;c029;");
        due("no ROW", x.judge(), -9);
        x.row(0);
        x.row(2);
        x.row(9);
        dueAll("all so", all(x.judge(), x.count(6)), -9, 0);
        x.row(0);
        x.row(2);
        x.row(99);
        x.row(7);
        dueAll("not so", all(x.judge(), x.count(6), x.judge()), 2, 0, -9);
        x.row(1);
        due("the first", x.judge(), 0);
    }

    private static void clear() {
        SovereignInBarrow x = new SovereignInBarrow();
        due("clear()", x.clear(), 0);
        x.row(3);
        x.row(4);
        dueAll("clear()", all(x.clear(), x.count(6), x.clear(), x.row(1)), 2, 0, 0, 1);
    }

    private static void lots() {
        // Without MINISTERS it stays where it was drawn; with a strong one all days end AT the GOAL.
        int[] seeds = {0, 1, 7, -1, Integer.MAX_VALUE, Integer.MIN_VALUE, 123456789};
        for (int z : seeds) {
            long seed = z;
            int same = 0;
            int heavy = 0;
            for (int day = 0; day < 20; day++) {
                int[] drawn = new int[3];
                for (int i = 0; i < 3; i++) {
                    seed = seed * 1664525L + 1013904223L & 0xffffffffL;
                    drawn[i] = (int) ((seed & 0x7fffffffL) / 256 % (i < 2 ? 25 : 11));
                }
                same += drawn[0] == drawn[1] ? 1 : 0;
                heavy += drawn[0] != drawn[1] && drawn[2] > 6 ? 12 : 0;
            }
            due("lots(20, " + z + ", 0), none", new SovereignInBarrow().lots(20, z, 0), same);
            due("lots(20, " + z + ", 1), none", new SovereignInBarrow().lots(20, z, 1), 0);
            due("lots(20, " + z + ", 0), RUNNER", kingdomOf("mr0;").lots(20, z, 0), 20);
            SovereignInBarrow one = kingdomOf("mm0;w20;s05;");
            due("lots(20, " + z + ", 1), MINISTER", one.lots(20, z, 1), heavy);
            dueAll("nothing changed", all(one.count(1), one.count(2), one.count(3), one.count(4), one.count(5)), 5, 0, 24, 20, 5);
        }
        SovereignInBarrow x = new SovereignInBarrow();
        no(x, "lots(0, 0, 2)", -4, () -> x.lots(0, 0, 2));
        no(x, "lots(21, 0, 2)", -6, () -> x.lots(21, 0, 2));
        no(x, "lots(20, 0, 2)", -2, () -> x.lots(20, 0, 2));
        no(x, "lots(1, 0, -1)", -2, () -> x.lots(1, 0, -1));
    }

    private static void image() {
        SovereignInBarrow x = kingdomOf("mm0;s03;");
        dueAll("image()", all(x.image(), x.goes(2), x.image(), x.on(), x.count(2)), 3, 21, 5, 5, 21);
    }

    private static void on() {
        SovereignInBarrow x = kingdomOf("mm0;md2;c071;k08;w06;b01;g23;s02;x0;");
        long[] before = seen(x);
        no(x, "on()", -3, x::on);
        due("image()", x.image(), 2);
        due("kingdom()", told(x, "mr9;c079;c003;k08;k09;w20;b20;g04;s07;x1;"), 10);
        x.turn(0, 4, 4);
        x.row(5);
        x.letter('z');
        int refused = x.count(13);
        due("on()", x.on(), 2);
        dueAll("all is as then", seen(x), before);
        dueAll("the ROW, letters, REFUSALS", all(x.count(6), x.count(7), x.count(13)), 1, 1, refused);
        x.goes(9);
        due("on() again", x.on(), 2);
        dueAll("all is as then, again", seen(x), before);
        SovereignInBarrow fewer = new SovereignInBarrow();
        fewer.image();
        told(fewer, "mm0;w20;s09;");
        fewer.on();
        told(fewer, "mm0;");
        due("a MINISTER's FALLS anew", fewer.minister(0, 2), 0);
    }

    private static long[] seen(SovereignInBarrow x) {
        return all(x.count(0), x.count(1), x.count(2), x.count(3), x.count(4), x.count(5), x.minister(0, 0),
                x.minister(0, 1), x.minister(0, 2), x.minister(0, 3), x.minister(1, 3), x.cell(7, 0), x.cell(0, 0),
                x.cell(8, 1), x.cell(9, 1), x.pushing(1), x.then(20, 0));
    }

    private static void count() {
        SovereignInBarrow x = kingdomOf("mm0;ml1;w20;b07;g09;s03;");
        x.row(1);
        x.letter(1);
        x.letter(2);
        dueAll("count", all(x.count(0), x.count(1), x.count(2), x.count(3), x.count(4), x.count(5), x.count(6), x.count(7)),
                2, 3, 7, 9, 20, 3, 1, 2);
        x.cell(25, 0);
        x.cell(0, 9);
        x.mean(9);
        x.on();
        x.on();
        x.on();
        x.goes(0);
        x.plank(0, 8, 2, 0);
        x.weighs(21);
        dueAll("REFUSALS", all(x.count(11), x.count(12), x.count(13), x.count(14), x.count(15), x.count(16)), 1, 2, 3, 1, 0, 2);
        int[] others = {-1, 8, 9, 10, 17, Integer.MIN_VALUE, Integer.MAX_VALUE};
        for (int what : others) {
            due("count(" + what + ")", x.count(what), -9);
        }
        dueAll("not refused", all(x.count(11), x.count(12), x.count(13), x.count(14), x.count(15), x.count(16)), 1, 2, 3, 1, 0, 2);
    }

    public static void main(String[] args) {
        Runnable[] promises = {
            PromiseTest::newObject, PromiseTest::letter, PromiseTest::kingdom, PromiseTest::minister, PromiseTest::cell,
            PromiseTest::pushing, PromiseTest::heaps, PromiseTest::kerbs, PromiseTest::stands, PromiseTest::goal,
            PromiseTest::weighs, PromiseTest::steps, PromiseTest::turn, PromiseTest::goes, PromiseTest::then,
            PromiseTest::fallsThen, PromiseTest::comes, PromiseTest::down, PromiseTest::stuck, PromiseTest::climb,
            PromiseTest::push, PromiseTest::take, PromiseTest::flat, PromiseTest::mostWeight, PromiseTest::start,
            PromiseTest::bestKind, PromiseTest::far, PromiseTest::easy, PromiseTest::two, PromiseTest::plank,
            PromiseTest::mean, PromiseTest::whoPushed, PromiseTest::row, PromiseTest::judge, PromiseTest::clear,
            PromiseTest::lots, PromiseTest::image, PromiseTest::on, PromiseTest::count};
        for (int i = 0; i < promises.length; i++) {
            about = "promise " + (i + 1);
            promises[i].run();
        }
        end(promises.length + " promises hold");
    }
}
