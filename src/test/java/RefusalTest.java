import java.util.Arrays;
import java.util.function.Supplier;
import java.util.function.ToIntFunction;

/**
 * Every call with every meeting of its arguments' edges: which refusal is answered (the first that fits in the
 * order in which the promise tells them), that it is counted once, and that nothing else changes.
 */
public final class RefusalTest extends Checks {
    private interface Call {
        long with(SovereignInBarrow x, int[] arguments);
    }

    private static final int[] SEEDS = {Integer.MIN_VALUE, -1, 0, Integer.MAX_VALUE};
    private static int refused;
    private static int taken;

    /** On both sides of the least and of the greatest, and as far away as can be. */
    private static int[] edges(int least, int greatest) {
        return new int[] {Integer.MIN_VALUE, least - 1, least, greatest, greatest + 1, Integer.MAX_VALUE};
    }

    private static int nobody(int number, int greatest) {
        return number < 0 || number > greatest ? -1 : 0;
    }

    private static int other(int number, int greatest) {
        return number < 0 || number > greatest ? -2 : 0;
    }

    private static int below(int number, int least) {
        return number < least ? -4 : 0;
    }

    private static int room(int number, int greatest) {
        return number > greatest ? -6 : 0;
    }

    /** The first that is one; 0 if none is. */
    private static int first(int... refusals) {
        return Arrays.stream(refusals).filter(refusal -> refusal != 0).findFirst().orElse(0);
    }

    /** With an image, a ROW, letters and REFUSALS of all sorts, and much that is other than at first. */
    private static SovereignInBarrow rich() {
        SovereignInBarrow x = kingdomOf("c031;k07;mm0;md2;w20;s05;b12;g14;");
        x.image();
        tellAll(x, "ml5;mr3;c004;c034;k08;x0;s02;b11;w06;");
        x.row(11);
        x.row(12);
        letters(x, "c019;");
        x.cell(25, 0);
        x.mean(2);
        x.mean(2);
        x.weighs(-1);
        x.weighs(21);
        return x;
    }

    /** All that can be seen of it but the REFUSALS; it is not as before then. */
    private static long[] seen(SovereignInBarrow x) {
        long[] before = seenNow(x);
        long[] row = {x.whoPushed(0), x.whoPushed(1), x.judge(), x.kingdom(), x.cell(1, 0), x.then(0, 1)};
        long on = x.on();
        long[] then = seenNow(x);
        long[] seen = Arrays.copyOf(before, before.length + row.length + 1 + then.length);
        System.arraycopy(row, 0, seen, before.length, row.length);
        seen[before.length + row.length] = on;
        System.arraycopy(then, 0, seen, before.length + row.length + 1, then.length);
        return seen;
    }

    private static long[] seenNow(SovereignInBarrow x) {
        long[] seen = new long[90];
        int n = 0;
        for (int cell = 0; cell < 25; cell++) {
            seen[n++] = x.cell(cell, 0);
            seen[n++] = x.cell(cell, 1);
        }
        for (int minister = 0; minister < x.count(0); minister++) {
            for (int what = 0; what < 4; what++) {
                seen[n++] = x.minister(minister, what);
            }
        }
        for (int what = 0; what < 8; what++) {
            seen[n++] = x.count(what);
        }
        for (int what = 0; what < 3; what++) {
            seen[n++] = x.pushing(what);
            seen[n++] = x.then(9, what);
        }
        return seen;
    }

    private static void grid(String name, Supplier<SovereignInBarrow> made, Call call, ToIntFunction<int[]> rule, int[]... edges) {
        about = name;
        SovereignInBarrow untouched = made.get();
        int[] before = refusals(untouched);
        long[] seen = seen(untouched);
        int meetings = 1;
        for (int[] values : edges) {
            meetings *= values.length;
        }
        for (int meeting = 0; meeting < meetings; meeting++) {
            int[] arguments = new int[edges.length];
            int rest = meeting;
            for (int i = 0; i < edges.length; i++) {
                arguments[i] = edges[i][rest % edges[i].length];
                rest /= edges[i].length;
            }
            SovereignInBarrow x = made.get();
            meet(x, Arrays.toString(arguments), call.with(x, arguments), rule.applyAsInt(arguments), before, seen);
        }
    }

    private static void meet(SovereignInBarrow x, String arguments, long answer, int refusal, int[] before, long[] seen) {
        boolean isLong = about.startsWith("plank") || about.startsWith("mean");
        int[] after = refusals(x);
        for (int i = 0; i < 6; i++) {
            due(arguments + ": REFUSALS " + (-1 - i), after[i], before[i] + (refusal == -1 - i ? 1 : 0));
        }
        if (refusal == 0) {
            taken++;
            return;
        }
        refused++;
        due(arguments, answer, isLong ? BIG - refusal : refusal);
        dueAll(arguments + ": nothing changes", seen(x), seen);
    }

    private static void ofLetters() {
        String most = "x0;".repeat(31) + "x1";
        Supplier<SovereignInBarrow> full = () -> {
            SovereignInBarrow x = rich();
            x.kingdom();
            letters(x, most + ";");
            return x;
        };
        Supplier<SovereignInBarrow> nearlyFull = () -> {
            SovereignInBarrow x = rich();
            x.kingdom();
            letters(x, most);
            return x;
        };
        Call letter = (x, a) -> x.letter(a[0]);
        grid("letter", RefusalTest::rich, letter, a -> first(below(a[0], 0), room(a[0], 255)), edges(0, 255));
        grid("letter, the 96th", nearlyFull, letter, a -> first(below(a[0], 0), room(a[0], 255)), edges(0, 255));
        grid("letter, the 97th", full, letter, a -> first(below(a[0], 0), -6), edges(0, 255));
        grid("kingdom", RefusalTest::rich, (x, a) -> x.kingdom(), a -> 0);
    }

    /** With none, with some, and with as many as there can be. */
    private static void ofMinisters() {
        for (int n = 0; n <= 5; n++) {
            int many = n;
            Supplier<SovereignInBarrow> made = () -> {
                SovereignInBarrow x = kingdomOf("mm0;ml1;ms2;md3;mr4;".substring(0, 4 * many) + "k05;w07;s04;");
                x.image();
                tellAll(x, "b03;s03;");
                return x;
            };
            String of = " of " + n + " MINISTERS";
            int last = n - 1;
            grid("minister" + of, made, (x, a) -> x.minister(a[0], a[1]),
                    a -> first(nobody(a[0], last), other(a[1], 4)), edges(0, last), edges(0, 4));
            grid("steps" + of, made, (x, a) -> x.steps(a[0]), a -> nobody(a[0], last), edges(0, last));
            grid("turn" + of, made, (x, a) -> x.turn(a[0], a[1], a[2]),
                    a -> first(nobody(a[0], last), other(a[1], 5), below(a[2], 0), room(a[2], 9)),
                    edges(0, last), edges(0, 5), edges(0, 9));
            grid("fallsThen" + of, made, (x, a) -> x.fallsThen(a[0], a[1]),
                    a -> first(nobody(a[0], last), below(a[1], 0), room(a[1], 60)), edges(0, last), edges(0, 60));
            grid("down" + of, made, (x, a) -> x.down(a[0]), a -> a[0] == -1 ? 0 : nobody(a[0], last), edges(-1, last));
            grid("bestKind" + of, made, (x, a) -> x.bestKind(a[0], a[1]),
                    a -> first(nobody(a[0], last), other(a[1], 1)), edges(0, last), edges(0, 1));
            grid("two" + of, made, (x, a) -> x.two(a[0], a[1], a[2]),
                    a -> first(nobody(a[0], last), nobody(a[1], last), a[0] == a[1] ? -1 : 0, below(a[2], 0), room(a[2], 30)),
                    edges(0, last), edges(0, last), edges(0, 30));
        }
    }

    private static void ofCells() {
        Supplier<SovereignInBarrow> made = RefusalTest::rich;
        int[] cells = edges(0, 24);
        grid("cell", made, (x, a) -> x.cell(a[0], a[1]), a -> first(nobody(a[0], 24), other(a[1], 1)), cells, edges(0, 1));
        grid("heaps", made, (x, a) -> x.heaps(a[0], a[1]),
                a -> first(nobody(a[0], 24), below(a[1], 0), room(a[1], 9)), cells, edges(0, 9));
        grid("kerbs", made, (x, a) -> x.kerbs(a[0]), a -> nobody(a[0], 24), cells);
        grid("stands", made, (x, a) -> x.stands(a[0]), a -> nobody(a[0], 24), cells);
        grid("goal", made, (x, a) -> x.goal(a[0]), a -> nobody(a[0], 24), cells);
        grid("comes", made, (x, a) -> x.comes(a[0]), a -> a[0] == -1 ? 0 : nobody(a[0], 24), edges(-1, 24));
        grid("climb", made, (x, a) -> x.climb(a[0], a[1]), a -> first(nobody(a[0], 24), other(a[1], 1)), cells, edges(0, 1));
        grid("plank", made, (x, a) -> x.plank(a[0], a[1], a[2], a[3]),
                a -> first(nobody(a[0], 24), below(a[1], 0), below(a[2], 2), room(a[1], 7), room(a[2], 20), other(a[3], 1)),
                cells, edges(0, 7), edges(2, 20), edges(0, 1));
    }

    private static void ofWhat() {
        Supplier<SovereignInBarrow> made = RefusalTest::rich;
        grid("pushing", made, (x, a) -> x.pushing(a[0]), a -> other(a[0], 2), edges(0, 2));
        grid("start", made, (x, a) -> x.start(a[0]), a -> other(a[0], 1), edges(0, 1));
        grid("far", made, (x, a) -> x.far(a[0]), a -> other(a[0], 3), edges(0, 3));
        grid("easy", made, (x, a) -> x.easy(a[0]), a -> other(a[0], 2), edges(0, 2));
        grid("mean", made, (x, a) -> x.mean(a[0]), a -> other(a[0], 1), edges(0, 1));
        grid("whoPushed", made, (x, a) -> x.whoPushed(a[0]), a -> other(a[0], 1), edges(0, 1));
        grid("count", made, (x, a) -> x.count(a[0]), a -> 0, edges(0, 7));
        grid("count of REFUSALS", made, (x, a) -> x.count(a[0]), a -> 0, edges(11, 16));
    }

    private static void ofNumbers() {
        Supplier<SovereignInBarrow> made = RefusalTest::rich;
        grid("weighs", made, (x, a) -> x.weighs(a[0]), a -> first(below(a[0], 0), room(a[0], 20)), edges(0, 20));
        grid("then", made, (x, a) -> x.then(a[0], a[1]),
                a -> first(below(a[0], 0), room(a[0], 60), other(a[1], 2)), edges(0, 60), edges(0, 2));
        grid("lots", made, (x, a) -> x.lots(a[0], a[1], a[2]),
                a -> first(below(a[0], 1), room(a[0], 20), other(a[2], 1)), edges(1, 20), SEEDS, edges(0, 1));
        grid("goes", made, (x, a) -> x.goes(a[0]), a -> first(below(a[0], 1), room(a[0], 60)), edges(1, 60));
        int[] steps = {939, 940, 941, 997, 998, 999};
        for (int step : steps) {
            int left = 999 - step;
            Call goes = (x, a) -> x.goes(a[0]);
            ToIntFunction<int[]> rule = a -> first(below(a[0], 1), room(a[0], 60), room(a[0], left));
            grid("goes at STEP " + step, () -> at(step), goes, rule, edges(1, 60));
            grid("goes at STEP " + step + ", as many as are left", () -> at(step), goes, rule, edges(1, left));
        }
        for (int n = 14; n <= 16; n++) {
            int many = n;
            grid("row of " + n, () -> withRow(many), (x, a) -> x.row(a[0]),
                    a -> first(below(a[0], 0), room(a[0], 99), many == 16 ? -6 : 0), edges(0, 99));
        }
    }

    private static SovereignInBarrow at(int step) {
        SovereignInBarrow x = kingdomOf("mm0;mo2;c061;");
        x.image();
        for (int left = step; left > 0; left -= 60) {
            x.goes(Math.min(60, left));
        }
        return x;
    }

    private static SovereignInBarrow withRow(int n) {
        SovereignInBarrow x = rich();
        for (int i = 2; i < n; i++) {
            x.row(i);
        }
        return x;
    }

    private static void ofNothing() {
        Supplier<SovereignInBarrow> made = RefusalTest::rich;
        grid("stuck", made, (x, a) -> x.stuck(), a -> 0);
        grid("push", made, (x, a) -> x.push(), a -> 0);
        grid("take", made, (x, a) -> x.take(), a -> 0);
        grid("flat", made, (x, a) -> x.flat(), a -> 0);
        grid("mostWeight", made, (x, a) -> x.mostWeight(), a -> 0);
        grid("judge", made, (x, a) -> x.judge(), a -> 0);
        grid("clear", made, (x, a) -> x.clear(), a -> 0);
        grid("image", made, (x, a) -> x.image(), a -> 0);
        grid("on", made, (x, a) -> x.on(), a -> 0);
        grid("on without an image", () -> kingdomOf("mm0;s03;"), (x, a) -> x.on(), a -> -3);
    }

    public static void main(String[] args) {
        ofLetters();
        ofMinisters();
        ofCells();
        ofWhat();
        ofNumbers();
        ofNothing();
        end(refused + " calls are refused and " + taken + " are not, as told");
    }
}
