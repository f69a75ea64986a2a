import java.math.BigInteger;
import java.util.ArrayList;
import java.util.Arrays;
import java.util.HashMap;
import java.util.List;
import java.util.Map;
import java.util.Random;

/**
 * Long runs of calls by lot, each answered by the class and by a second program, written apart from it
 * out of the document's words: no answer may differ, and no call may throw.
 */
public final class ModelTest {
    private static final int RUNS = 1500;
    private static final int CALLS = 512;

    /** A kingdom that is never changed in place: each change makes another. */
    private static final class World {
        int[] height = new int[25];
        boolean[] kerb = new boolean[25];
        int at = 0;
        int goal = 24;
        int way = 1;
        int weight = 5;
        int step = 0;
        List<int[]> ministers = new ArrayList<>(); // kind, figure, falls
        List<Integer> row = new ArrayList<>();

        World copy() {
            World w = new World();
            w.height = height.clone();
            w.kerb = kerb.clone();
            w.at = at;
            w.goal = goal;
            w.way = way;
            w.weight = weight;
            w.step = step;
            for (int[] m : ministers) {
                w.ministers.add(m.clone());
            }
            w.row = new ArrayList<>(row);
            return w;
        }

        static int beyond(int cell, int way) {
            int y = cell / 5 + new int[] {-1, 0, 1, 0}[way];
            int x = cell % 5 + new int[] {0, 1, 0, -1}[way];
            return y < 0 || y > 4 || x < 0 || x > 4 ? -9 : y * 5 + x;
        }

        int sign() {
            if (at / 5 > goal / 5) {
                return 0;
            }
            if (at / 5 < goal / 5) {
                return 2;
            }
            return at % 5 < goal % 5 ? 1 : at % 5 > goal % 5 ? 3 : -9;
        }

        int hold(int m) {
            int figure = ministers.get(m)[1];
            switch ("mlsdro".charAt(ministers.get(m)[0])) {
                case 'm': return figure + 6;
                case 'l': return figure + 8;
                case 's': return figure + 6;
                case 'd': return figure + 5;
                case 'r': return 2 * figure + 16;
                default: return figure + 8;
            }
        }

        /** In the next STEP. */
        int pushWay() {
            if (row.isEmpty() || at == goal) {
                return -9;
            }
            int s = step + 1;
            int sign = sign();
            int left = s % 3 == 0 ? new int[] {3, 0, 1, 2}[sign] : sign;
            boolean open = beyond(at, way) >= 0;
            switch ("mlsdro".charAt(ministers.get(row.get(0))[0])) {
                case 'l': return left;
                case 's': return open && s % 4 != 0 ? way : sign;
                case 'd': return open ? way : sign;
                case 'o': return beyond(at, (left + 2) % 4) >= 0 ? (left + 2) % 4 : left;
                default: return sign;
            }
        }

        int load(int to) {
            int load = weight;
            if (height[to] > height[at]) {
                load += 3 * (height[to] - height[at]);
            }
            return kerb[to] ? load + 4 : load;
        }

        World after(int more) {
            World w = copy();
            w.step = step + 1;
            int push = pushWay();
            if (push < 0 || beyond(at, push) < 0) {
                return w;
            }
            int to = beyond(at, push);
            int who = row.get(0);
            if (load(to) + more <= hold(who)) {
                w.at = to;
                w.way = push;
                return w;
            }
            if (w.ministers.get(who)[2] < 99) {
                w.ministers.get(who)[2]++;
            }
            w.row.remove(0);
            w.row.add(who);
            return w;
        }

        List<World> path(int n) {
            List<World> path = new ArrayList<>();
            path.add(this);
            for (int i = 0; i < n; i++) {
                path.add(path.get(i).after(0));
            }
            return path;
        }

        World afterAll(int n) {
            return path(n).get(n);
        }

        int falls() {
            return ministers.stream().mapToInt(m -> m[2]).sum();
        }

        int comes(int cell) {
            List<World> path = path(60);
            for (int n = 0; n <= 60; n++) {
                if (path.get(n).at == cell) {
                    return n;
                }
            }
            return -9;
        }

        int there() {
            return comes(goal);
        }

        int downOf(int m) {
            List<World> path = path(60);
            for (int n = 0; n <= 60; n++) {
                if (path.get(n).ministers.get(m)[2] > ministers.get(m)[2]) {
                    return n;
                }
            }
            return -9;
        }

        World front(int m) {
            World w = copy();
            w.row.remove((Integer) m);
            w.row.add(0, m);
            return w;
        }

        World back(int m) {
            World w = copy();
            w.row.remove((Integer) m);
            w.row.add(m);
            return w;
        }

        boolean goesBy(List<Integer> numbers) {
            List<World> path = path(20);
            for (int i = 0; i < numbers.size(); i++) {
                if (path.get(i).at != numbers.get(i)) {
                    return false;
                }
            }
            return true;
        }
    }

    /** The whole face, as the document tells it. */
    private static final class Model {
        World w = new World();
        World image = null;
        StringBuilder letters = new StringBuilder();
        List<Integer> numbers = new ArrayList<>();
        int[] refused = new int[7];

        int no(int r) {
            refused[-r]++;
            return r;
        }

        boolean cellOk(int c) {
            return 0 <= c && c <= 24;
        }

        boolean ministerOk(int m) {
            return 0 <= m && m < w.ministers.size();
        }

        int letter(int c) {
            if (c < 0) {
                return no(-4);
            }
            if (c > 255 || letters.length() == 96) {
                return no(-6);
            }
            letters.append((char) c);
            return letters.length();
        }

        int kingdom() {
            String text = letters.toString();
            letters.setLength(0);
            int viable = viablePrefix(text);
            if (viable < text.length() || !text.matches("(" + STATEMENT + ")+")) {
                return -1000 - viable;
            }
            World next = w.copy();
            int begin = 0;
            int count = 0;
            while (begin < text.length()) {
                int end = text.indexOf(';', begin);
                next = told(next, text.charAt(begin), text.substring(begin + 1, end));
                if (next == null) {
                    return -2000 - begin;
                }
                begin = end + 1;
                count++;
            }
            w = next;
            return count;
        }

        static final String STATEMENT = "c[0-9]{3};|[kbgws][0-9]{2};|m[mlsdro][0-9];|x[0-9];";

        /** How long the longest beginning is with which a kingdom can go on. */
        static int viablePrefix(String text) {
            for (int n = text.length(); n > 0; n--) {
                java.util.regex.Matcher m =
                        java.util.regex.Pattern.compile("(?s)(" + STATEMENT + ")+").matcher(text.substring(0, n));
                if (m.matches() || m.hitEnd()) {
                    return n;
                }
            }
            return 0;
        }

        static World told(World before, char letter, String rest) {
            World next = before.copy();
            int two = rest.length() > 1 && letter != 'm' ? Integer.parseInt(rest.substring(0, 2)) : 0;
            if ("ckbg".indexOf(letter) >= 0 && two > 24) {
                return null;
            }
            switch (letter) {
                case 'c': next.height[two] = rest.charAt(2) - '0'; return next;
                case 'k': next.kerb[two] ^= true; return next;
                case 'b': next.at = two; return next;
                case 'g': next.goal = two; return next;
                case 'w': next.weight = two; return two > 20 ? null : next;
                case 'm':
                    next.row.add(next.ministers.size());
                    next.ministers.add(new int[] {"mlsdro".indexOf(rest.charAt(0)), rest.charAt(1) - '0', 0});
                    return next.ministers.size() > 5 ? null : next;
                case 'x':
                    int who = rest.charAt(0) - '0';
                    return who < next.ministers.size() ? next.back(who) : null;
                default:
                    return two < 1 || two > 60 || next.step + two > 999 ? null : next.afterAll(two);
            }
        }

        int minister(int m, int what) {
            if (!ministerOk(m)) {
                return no(-1);
            }
            if (what < 0 || what > 4) {
                return no(-2);
            }
            return what < 3 ? w.ministers.get(m)[what] : what == 3 ? w.row.indexOf(m) : w.hold(m);
        }

        int cell(int c, int what) {
            if (!cellOk(c)) {
                return no(-1);
            }
            return what == 0 ? w.height[c] : what == 1 ? (w.kerb[c] ? 1 : 0) : no(-2);
        }

        int pushing(int what) {
            if (what < 0 || what > 2) {
                return no(-2);
            }
            if (what == 0) {
                return w.sign();
            }
            int way = w.pushWay();
            if (what == 1 || way < 0) {
                return way;
            }
            int to = World.beyond(w.at, way);
            return to < 0 ? -9 : w.load(to);
        }

        int heaps(int c, int v) {
            if (!cellOk(c)) {
                return no(-1);
            }
            if (v < 0) {
                return no(-4);
            }
            if (v > 9) {
                return no(-6);
            }
            int was = w.height[c];
            w.height[c] = v;
            return was;
        }

        int kerbs(int c) {
            if (!cellOk(c)) {
                return no(-1);
            }
            w.kerb[c] ^= true;
            return w.kerb[c] ? 1 : 0;
        }

        int stands(int c) {
            if (!cellOk(c)) {
                return no(-1);
            }
            int was = w.at;
            w.at = c;
            return was;
        }

        int goal(int c) {
            if (!cellOk(c)) {
                return no(-1);
            }
            int was = w.goal;
            w.goal = c;
            return was;
        }

        int weighs(int v) {
            if (v < 0) {
                return no(-4);
            }
            if (v > 20) {
                return no(-6);
            }
            int was = w.weight;
            w.weight = v;
            return was;
        }

        int steps(int m) {
            if (!ministerOk(m)) {
                return no(-1);
            }
            w = w.back(m);
            return w.row.get(0);
        }

        int turn(int m, int kind, int figure) {
            if (!ministerOk(m)) {
                return no(-1);
            }
            if (kind < 0 || kind > 5) {
                return no(-2);
            }
            if (figure < 0) {
                return no(-4);
            }
            if (figure > 9) {
                return no(-6);
            }
            int[] it = w.ministers.get(m);
            int was = it[0] * 10 + it[1];
            it[0] = kind;
            it[1] = figure;
            return was;
        }

        int goes(int n) {
            if (n < 1) {
                return no(-4);
            }
            if (n > 60 || w.step + n > 999) {
                return no(-6);
            }
            w = w.afterAll(n);
            return w.at;
        }

        int then(int n, int what) {
            if (n < 0) {
                return no(-4);
            }
            if (n > 60) {
                return no(-6);
            }
            if (what < 0 || what > 2) {
                return no(-2);
            }
            World later = w.afterAll(n);
            return what == 0 ? later.at : what == 2 ? later.falls() : later.row.isEmpty() ? -9 : later.row.get(0);
        }

        int fallsThen(int m, int n) {
            if (!ministerOk(m)) {
                return no(-1);
            }
            if (n < 0) {
                return no(-4);
            }
            return n > 60 ? no(-6) : w.afterAll(n).ministers.get(m)[2];
        }

        int comes(int c) {
            return c == -1 ? w.there() : cellOk(c) ? w.comes(c) : no(-1);
        }

        int down(int m) {
            if (m != -1) {
                return ministerOk(m) ? w.downOf(m) : no(-1);
            }
            List<World> path = w.path(60);
            for (World later : path) {
                for (int i = 0; i < w.ministers.size(); i++) {
                    if (later.ministers.get(i)[2] > w.ministers.get(i)[2]) {
                        return i;
                    }
                }
            }
            return -9;
        }

        int stuck() {
            List<World> path = w.path(72);
            for (int n = 0; n <= 60; n++) {
                boolean same = true;
                for (int i = 1; i <= 12; i++) {
                    same &= path.get(n + i).at == path.get(n).at;
                }
                if (same) {
                    return n;
                }
            }
            return -9;
        }

        int climb(int c, int what) {
            if (!cellOk(c)) {
                return no(-1);
            }
            if (what < 0 || what > 1) {
                return no(-2);
            }
            int[][] d = new int[25][25];
            for (int a = 0; a < 25; a++) {
                Arrays.fill(d[a], 99999);
                d[a][a] = 0;
                for (int way = 0; way < 4; way++) {
                    int b = World.beyond(a, way);
                    if (b >= 0) {
                        d[a][b] = Math.max(0, w.height[b] - w.height[a]) + (what == 1 && w.kerb[b] ? 2 : 0);
                    }
                }
            }
            for (int k = 0; k < 25; k++) {
                for (int a = 0; a < 25; a++) {
                    for (int b = 0; b < 25; b++) {
                        d[a][b] = Math.min(d[a][b], d[a][k] + d[k][b]);
                    }
                }
            }
            return d[w.at][c];
        }

        /** The place of the least that is not negative, if it is below the bound (negative: none). */
        static int least(int[] whens, int bound) {
            int best = -9;
            int bestWhen = bound < 0 ? 61 : bound;
            for (int i = 0; i < whens.length; i++) {
                if (whens[i] >= 0 && whens[i] < bestWhen) {
                    best = i;
                    bestWhen = whens[i];
                }
            }
            return best;
        }

        int push() {
            int[] whens = new int[w.ministers.size()];
            for (int i = 0; i < whens.length; i++) {
                whens[i] = w.front(i).there();
            }
            return least(whens, w.there());
        }

        int take() {
            int[] whens = new int[25];
            for (int i = 0; i < 25; i++) {
                World o = w.copy();
                o.kerb[i] = false;
                whens[i] = w.kerb[i] ? o.there() : -9;
            }
            return least(whens, w.there());
        }

        int flat() {
            int[] whens = new int[25];
            for (int i = 0; i < 25; i++) {
                World o = w.copy();
                o.height[i] = 0;
                whens[i] = o.there();
            }
            return least(whens, w.there());
        }

        int mostWeight() {
            int most = -9;
            for (int i = 0; i <= 20; i++) {
                World o = w.copy();
                o.weight = i;
                most = o.there() >= 0 ? i : most;
            }
            return most;
        }

        int start(int what) {
            if (what < 0 || what > 1) {
                return no(-2);
            }
            int[] whens = new int[25];
            for (int i = 0; i < 25; i++) {
                World o = w.copy();
                o.at = i;
                whens[i] = i == w.goal ? -9 : o.there();
            }
            int best = least(whens, -9);
            return what == 0 || best < 0 ? best : whens[best];
        }

        int bestKind(int m, int what) {
            if (!ministerOk(m)) {
                return no(-1);
            }
            if (what < 0 || what > 1) {
                return no(-2);
            }
            int[] whens = new int[6];
            for (int i = 0; i < 6; i++) {
                World o = w.copy();
                o.ministers.get(m)[0] = i;
                whens[i] = o.there();
            }
            int best = least(whens, -9);
            return what == 0 || best < 0 ? best : whens[best];
        }

        int far(int what) {
            int all = 0;
            int between = 0;
            for (int c = 24; c >= 0; c--) {
                boolean rowIn = (c / 5 - w.at / 5) * (c / 5 - w.goal / 5) <= 0;
                boolean columnIn = (c % 5 - w.at % 5) * (c % 5 - w.goal % 5) <= 0;
                all += w.kerb[c] ? 1 : 0;
                between += w.kerb[c] && rowIn && columnIn ? 1 : 0;
            }
            switch (what) {
                case 0: return Math.abs(w.at / 5 - w.goal / 5) + Math.abs(w.at % 5 - w.goal % 5);
                case 1: return Arrays.stream(w.height).boxed().toList().indexOf(Arrays.stream(w.height).max().getAsInt());
                case 2: return all;
                case 3: return between;
                default: return no(-2);
            }
        }

        int easy(int what) {
            if (what < 0 || what > 2) {
                return no(-2);
            }
            int bits = 0;
            if (what == 0) {
                for (int way = 0; way < 4 && !w.row.isEmpty(); way++) {
                    int to = World.beyond(w.at, way);
                    bits += to >= 0 && w.load(to) <= w.hold(w.row.get(0)) ? 1 << to : 0;
                }
                return bits;
            }
            int clumsy = -9;
            int most = -1;
            for (int m = 0; m < w.ministers.size(); m++) {
                bits += w.hold(m) >= w.weight + 13 ? 1 << m : 0;
                if (w.ministers.get(m)[2] > most) {
                    most = w.ministers.get(m)[2];
                    clumsy = m;
                }
            }
            return what == 1 ? bits : clumsy;
        }

        int two(int a, int b, int n) {
            if (!ministerOk(a) || !ministerOk(b) || a == b) {
                return no(-1);
            }
            if (n < 0) {
                return no(-4);
            }
            if (n > 30) {
                return no(-6);
            }
            int p = Math.min(a, b);
            int q = Math.max(a, b);
            for (int x = 0; x < 2; x++) {
                for (int y = 0; y < 2; y++) {
                    int[] here = harm(p, q, x, y, n);
                    if (here[0] <= harm(p, q, 1 - x, y, n)[0] && here[1] <= harm(p, q, x, 1 - y, n)[1]) {
                        return 10 * x + y;
                    }
                }
            }
            return -9;
        }

        int[] harm(int p, int q, int x, int y, int n) {
            World o = x == 1 ? w.back(p) : w;
            o = y == 1 ? o.back(q) : o;
            World later = o.afterAll(n);
            return new int[] {
                later.ministers.get(p)[2] - w.ministers.get(p)[2] + x,
                later.ministers.get(q)[2] - w.ministers.get(q)[2] + y};
        }

        long plank(int c, int n, int t, int part) {
            int r = !cellOk(c) ? -1 : n < 0 || t < 2 ? -4 : n > 7 || t > 20 ? -6 : part < 0 || part > 1 ? -2 : 0;
            if (r < 0) {
                return 4000000000000000000L - no(r);
            }
            BigInteger above = chance(w, c, n, t);
            BigInteger below = BigInteger.valueOf(t).pow(n);
            BigInteger gcd = above.gcd(below);
            return (part == 0 ? above : below).divide(gcd).longValueExact();
        }

        static BigInteger chance(World o, int c, int n, int t) {
            if (n == 0) {
                return o.at == c ? BigInteger.ONE : BigInteger.ZERO;
            }
            return chance(o.after(5), c, n - 1, t)
                    .add(chance(o.after(0), c, n - 1, t).multiply(BigInteger.valueOf(t - 1)));
        }

        long mean(int part) {
            if (part < 0 || part > 1) {
                return 4000000000000000000L - no(-2);
            }
            BigInteger above = BigInteger.valueOf(Arrays.stream(w.height).sum());
            BigInteger below = BigInteger.valueOf(25);
            return (part == 0 ? above : below).divide(above.gcd(below)).longValueExact();
        }

        int whoPushed(int what) {
            if (what < 0 || what > 1) {
                return no(-2);
            }
            int bits = 0;
            for (int i = 0; what == 0 && i < w.ministers.size(); i++) {
                bits += w.front(i).goesBy(numbers) ? 1 << i : 0;
            }
            for (int i = 0; what == 1 && i < 6 && !w.row.isEmpty(); i++) {
                World o = w.copy();
                o.ministers.get(o.row.get(0))[0] = i;
                bits += o.goesBy(numbers) ? 1 << i : 0;
            }
            return bits;
        }

        int row(int v) {
            if (v < 0) {
                return no(-4);
            }
            if (v > 99 || numbers.size() == 16) {
                return no(-6);
            }
            numbers.add(v);
            return numbers.size();
        }

        int judge() {
            List<Integer> told = new ArrayList<>(numbers);
            numbers.clear();
            for (int i = 0; i < told.size(); i++) {
                if (told.get(i) != w.height[i]) {
                    return i;
                }
            }
            return -9;
        }

        int clear() {
            int had = numbers.size();
            numbers.clear();
            return had;
        }

        int lots(int n, int z, int what) {
            if (n < 1) {
                return no(-4);
            }
            if (n > 20) {
                return no(-6);
            }
            if (what < 0 || what > 1) {
                return no(-2);
            }
            BigInteger seed = BigInteger.valueOf(z);
            int sum = 0;
            for (int i = 0; i < n; i++) {
                World o = w.copy();
                int[] drawn = new int[3];
                for (int k = 0; k < 3; k++) {
                    seed = seed.multiply(BigInteger.valueOf(1664525)).add(BigInteger.valueOf(1013904223))
                            .mod(BigInteger.ONE.shiftLeft(32));
                    drawn[k] = seed.mod(BigInteger.ONE.shiftLeft(31)).divide(BigInteger.valueOf(256))
                            .mod(BigInteger.valueOf(k < 2 ? 25 : 11)).intValue();
                }
                o.at = drawn[0];
                o.goal = drawn[1];
                o.weight = drawn[2];
                World later = o.afterAll(12);
                sum += what == 1 ? later.falls() - w.falls() : later.at == later.goal ? 1 : 0;
            }
            return sum;
        }

        int image() {
            image = w.copy();
            return w.step;
        }

        int on() {
            if (image == null) {
                return no(-3);
            }
            w = image.copy();
            return w.step;
        }

        int count(int what) {
            int[] answers = {
                w.ministers.size(), w.step, w.at, w.goal, w.weight, w.falls(), numbers.size(), letters.length(),
                -9, -9, -9, refused[1], refused[2], refused[3], refused[4], refused[5], refused[6]};
            return what < 0 || what > 16 ? -9 : answers[what];
        }
    }

    private static final String[] NAMES = {
        "letter", "kingdom", "minister", "cell", "pushing", "heaps", "kerbs", "stands", "goal", "weighs", "steps",
        "turn", "goes", "then", "fallsThen", "comes", "down", "stuck", "climb", "push", "take", "flat",
        "mostWeight", "start", "bestKind", "far", "easy", "two", "plank", "mean", "whoPushed", "row", "judge",
        "clear", "lots", "image", "on", "count"};

    private static long ask(SovereignInBarrow x, int call, int[] a) {
        switch (NAMES[call]) {
            case "letter": return x.letter(a[0]);
            case "kingdom": return x.kingdom();
            case "minister": return x.minister(a[0], a[1]);
            case "cell": return x.cell(a[0], a[1]);
            case "pushing": return x.pushing(a[0]);
            case "heaps": return x.heaps(a[0], a[1]);
            case "kerbs": return x.kerbs(a[0]);
            case "stands": return x.stands(a[0]);
            case "goal": return x.goal(a[0]);
            case "weighs": return x.weighs(a[0]);
            case "steps": return x.steps(a[0]);
            case "turn": return x.turn(a[0], a[1], a[2]);
            case "goes": return x.goes(a[0]);
            case "then": return x.then(a[0], a[1]);
            case "fallsThen": return x.fallsThen(a[0], a[1]);
            case "comes": return x.comes(a[0]);
            case "down": return x.down(a[0]);
            case "stuck": return x.stuck();
            case "climb": return x.climb(a[0], a[1]);
            case "push": return x.push();
            case "take": return x.take();
            case "flat": return x.flat();
            case "mostWeight": return x.mostWeight();
            case "start": return x.start(a[0]);
            case "bestKind": return x.bestKind(a[0], a[1]);
            case "far": return x.far(a[0]);
            case "easy": return x.easy(a[0]);
            case "two": return x.two(a[0], a[1], a[2]);
            case "plank": return x.plank(a[0], a[1], a[2], a[3]);
            case "mean": return x.mean(a[0]);
            case "whoPushed": return x.whoPushed(a[0]);
            case "row": return x.row(a[0]);
            case "judge": return x.judge();
            case "clear": return x.clear();
            case "lots": return x.lots(a[0], a[1], a[2]);
            case "image": return x.image();
            case "on": return x.on();
            default: return x.count(a[0]);
        }
    }

    private static long ask(Model x, int call, int[] a) {
        switch (NAMES[call]) {
            case "letter": return x.letter(a[0]);
            case "kingdom": return x.kingdom();
            case "minister": return x.minister(a[0], a[1]);
            case "cell": return x.cell(a[0], a[1]);
            case "pushing": return x.pushing(a[0]);
            case "heaps": return x.heaps(a[0], a[1]);
            case "kerbs": return x.kerbs(a[0]);
            case "stands": return x.stands(a[0]);
            case "goal": return x.goal(a[0]);
            case "weighs": return x.weighs(a[0]);
            case "steps": return x.steps(a[0]);
            case "turn": return x.turn(a[0], a[1], a[2]);
            case "goes": return x.goes(a[0]);
            case "then": return x.then(a[0], a[1]);
            case "fallsThen": return x.fallsThen(a[0], a[1]);
            case "comes": return x.comes(a[0]);
            case "down": return x.down(a[0]);
            case "stuck": return x.stuck();
            case "climb": return x.climb(a[0], a[1]);
            case "push": return x.push();
            case "take": return x.take();
            case "flat": return x.flat();
            case "mostWeight": return x.mostWeight();
            case "start": return x.start(a[0]);
            case "bestKind": return x.bestKind(a[0], a[1]);
            case "far": return x.far(a[0]);
            case "easy": return x.easy(a[0]);
            case "two": return x.two(a[0], a[1], a[2]);
            case "plank": return x.plank(a[0], a[1], a[2], a[3]);
            case "mean": return x.mean(a[0]);
            case "whoPushed": return x.whoPushed(a[0]);
            case "row": return x.row(a[0]);
            case "judge": return x.judge();
            case "clear": return x.clear();
            case "lots": return x.lots(a[0], a[1], a[2]);
            case "image": return x.image();
            case "on": return x.on();
            default: return x.count(a[0]);
        }
    }

    /** Mostly arguments that fit the call, now and then any at all. */
    private static int[] arguments(String name, Random lot, Model model) {
        int any = lot.nextInt(40);
        if (any == 0) {
            return new int[] {lot.nextInt(), lot.nextInt(), lot.nextInt(), lot.nextInt()};
        }
        if (any < 4) {
            return new int[] {
                lot.nextInt(70) - 4, lot.nextInt(70) - 4, lot.nextInt(30) - 4, lot.nextInt(5) - 1};
        }
        int ministers = Math.max(1, model.w.ministers.size());
        int minister = lot.nextInt(ministers);
        int cell = lot.nextInt(25);
        switch (name) {
            case "minister": return new int[] {minister, lot.nextInt(5)};
            case "heaps": return new int[] {cell, lot.nextInt(lot.nextInt(9) + 2)};
            case "weighs": return new int[] {lot.nextInt(21)};
            case "steps": return new int[] {minister};
            case "turn": return new int[] {minister, lot.nextInt(6), lot.nextInt(10)};
            case "goes": return new int[] {lot.nextInt(lot.nextInt(60) + 1) + 1};
            case "then": return new int[] {lot.nextInt(61), lot.nextInt(3)};
            case "fallsThen": return new int[] {minister, lot.nextInt(61)};
            case "comes": return new int[] {lot.nextInt(26) - 1};
            case "down": return new int[] {lot.nextInt(ministers + 1) - 1};
            case "bestKind": return new int[] {minister, lot.nextInt(2)};
            case "two": return new int[] {minister, lot.nextInt(ministers), lot.nextInt(31)};
            case "plank":
                int n = lot.nextInt(8);
                return new int[] {
                    lot.nextBoolean() ? model.w.afterAll(lot.nextInt(n + 1)).at : cell, n, lot.nextInt(19) + 2,
                    lot.nextInt(2)};
            case "lots": return new int[] {lot.nextInt(20) + 1, lot.nextInt(), lot.nextInt(2)};
            case "cell":
            case "climb": return new int[] {cell, lot.nextInt(2)};
            case "row":
                int told = model.numbers.size();
                boolean byHeight = told % 3 == 0 && lot.nextInt(4) == 0;
                return new int[] {
                    byHeight ? model.w.height[told] : model.w.afterAll(told).at};
            case "letter": return new int[] {"ckmbgwxs;0123mlsdro".charAt(lot.nextInt(19))};
            case "count": return new int[] {lot.nextInt(19) - 1};
            case "kerbs":
            case "stands":
            case "goal": return new int[] {cell};
            default: return new int[] {lot.nextInt(4)};
        }
    }

    private static String statement(Random lot) {
        int cell = lot.nextInt(40) == 0 ? lot.nextInt(100) : lot.nextInt(25);
        String two = "" + cell / 10 + cell % 10;
        switch (lot.nextInt(12)) {
            case 0:
            case 1: return "c" + two + lot.nextInt(lot.nextInt(9) + 2) + ";";
            case 2: return "k" + two + ";";
            case 3:
            case 4:
            case 5:
            case 6: return "m" + "mlsdro".charAt(lot.nextInt(6)) + lot.nextInt(10) + ";";
            case 7: return "b" + two + ";";
            case 8: return "g" + two + ";";
            case 9: return "w0" + lot.nextInt(10) + ";";
            case 10: return "x" + lot.nextInt(3) + ";";
            default: return "s0" + lot.nextInt(10) + ";";
        }
    }

    private static List<int[]> telling(Random lot) {
        StringBuilder text = new StringBuilder();
        for (int i = lot.nextInt(6); i >= 0; i--) {
            text.append(statement(lot));
        }
        if (lot.nextInt(6) == 0) {
            text.setCharAt(lot.nextInt(text.length()), (char) lot.nextInt(256));
        }
        if (lot.nextInt(8) == 0) {
            text.setLength(lot.nextInt(text.length()));
        }
        List<int[]> calls = new ArrayList<>();
        for (int i = 0; i < text.length(); i++) {
            calls.add(new int[] {0, text.charAt(i)});
        }
        calls.add(new int[] {1});
        return calls;
    }

    private static boolean sameRun(int run, Map<String, Integer> answered) {
        Random lot = new Random(run);
        SovereignInBarrow x = new SovereignInBarrow();
        Model model = new Model();
        List<int[]> waiting = new ArrayList<>();
        StringBuilder trace = new StringBuilder();
        for (int i = 0; i < CALLS; i++) {
            if (waiting.isEmpty() && (i == 0 || lot.nextInt(40) == 0)) {
                waiting = telling(lot);
            }
            int call;
            int[] arguments;
            if (!waiting.isEmpty()) {
                int[] next = waiting.remove(0);
                call = next[0];
                arguments = next.length > 1 ? new int[] {next[1]} : new int[0];
            } else {
                call = lot.nextInt(NAMES.length);
                arguments = arguments(NAMES[call], lot, model);
            }
            String told = NAMES[call] + Arrays.toString(arguments);
            long want = ask(model, call, arguments);
            long got;
            try {
                got = ask(x, call, arguments);
            } catch (RuntimeException e) {
                System.out.println("run " + run + ", call " + i + ": " + told + " threw " + e);
                return false;
            }
            trace.append(told).append(" ");
            if (got != want) {
                System.out.println(trace);
                System.out.println("run " + run + ", call " + i + ": " + told + " answered " + got + ", model " + want);
                return false;
            }
            answered.merge(NAMES[call] + " " + (want == -9 ? "none" : want < 0 || want > 1L << 61 ? "no" : "yes"), 1,
                    Integer::sum);
        }
        return true;
    }

    public static void main(String[] args) {
        int wrong = 0;
        Map<String, Integer> answered = new HashMap<>();
        for (int run = 0; run < RUNS && wrong < 5; run++) {
            wrong += sameRun(run, answered) ? 0 : 1;
        }
        for (String name : NAMES) {
            // kingdom refuses nothing, but its faults are numbers below 0 too.
            if (!answered.containsKey(name + " yes")) {
                wrong++;
                System.out.println("the lot never got a plain answer from " + name);
            }
        }
        if (args.length > 0) {
            answered.entrySet().stream().map(Object::toString).sorted().forEach(System.out::println);
        }
        System.out.println(wrong == 0 ? "all runs are as in the model" : wrong + " faults");
        if (wrong != 0) {
            System.exit(1);
        }
    }
}
