/**
 * A small kingdom whose sovereign sits in a wheelbarrow that ministers push.
 * What each call answers is told, promise by promise, in ../shared/DOC.md.
 */
public final class SovereignInBarrow {
    private static final int SIDE = 5;
    private static final int CELLS = 25;
    private static final int MOST_MINISTERS = 5;
    private static final int KINDS = 6;
    private static final int MOST_HEIGHT = 9;
    private static final int MOST_FIGURE = 9;
    private static final int MOST_FALLS = 99;
    private static final int MOST_WEIGHT = 20;
    private static final int LAST_STEP = 999;
    private static final int MOST_STEPS = 60;
    private static final int STUCK_FOR = 12;
    private static final int MOST_LETTERS = 96;
    private static final int MOST_NUMBERS = 16;

    private static final int UP = 0;
    private static final int RIGHT = 1;
    private static final int DOWN = 2;
    private static final int LEFT = 3;
    private static final int WAYS = 4;

    private static final int NONE = -9;
    /** Later than any STEP that is looked at, so that "sooner" is a plain comparison. */
    private static final int NEVER = 1000000;

    private static final int NOBODY = -1;
    private static final int OTHER = -2;
    private static final int STATE = -3;
    private static final int BELOW = -4;
    private static final int ROOM = -6;
    private static final long LONG_REFUSAL = 4000000000000000000L;

    private final Kingdom now;
    /** What is only thought of happens here, so that no call but the changing ones touches now. */
    private final Kingdom mind;
    private final Kingdom kept;
    private boolean imageTaken;
    private final Telling told = new Telling();
    private final int[] numbers = new int[MOST_NUMBERS];
    private int numbersTold;
    /** How often each refusal was answered, by its number without the sign. */
    private final int[] refusals = new int[7];
    private final Soonest soonest = new Soonest();
    private final int[] climbs = new int[CELLS];
    private final int[] lesserHarm = new int[4];
    private final int[] greaterHarm = new int[4];

    public SovereignInBarrow() {
        Minister[] rules = {
            new Minister(), new LeftOne(), new Speaker(), new Deaf(), new Runner(), new Opposite()
        };
        now = new Kingdom(rules);
        mind = new Kingdom(rules);
        kept = new Kingdom(rules);
    }

    public int letter(int c) {
        if (c < 0) {
            return refuse(BELOW);
        }
        if (c > 255 || told.size >= MOST_LETTERS) {
            return refuse(ROOM);
        }
        told.hear(c);
        return told.size;
    }

    public int kingdom() {
        int answer = told.faultIn(now);
        if (answer == NONE) {
            answer = told.tellTo(now);
        }
        told.size = 0;
        return answer;
    }

    public int minister(int minister, int what) {
        if (!isMinister(minister)) {
            return refuse(NOBODY);
        }
        switch (what) {
            case 0: return now.kinds[minister];
            case 1: return now.figures[minister];
            case 2: return now.falls[minister];
            case 3: return now.placeOf(minister);
            case 4: return now.strengthOf(minister);
            default: return refuse(OTHER);
        }
    }

    public int cell(int cell, int what) {
        if (!isCell(cell)) {
            return refuse(NOBODY);
        }
        switch (what) {
            case 0: return now.heights[cell];
            case 1: return now.kerb[cell];
            default: return refuse(OTHER);
        }
    }

    public int pushing(int what) {
        switch (what) {
            case 0: return now.sign();
            case 1: return now.nextWay();
            case 2: return now.loadInto(cellBeyond(now.at, now.nextWay()));
            default: return refuse(OTHER);
        }
    }

    public int heaps(int cell, int v) {
        if (!isCell(cell)) {
            return refuse(NOBODY);
        }
        if (v < 0) {
            return refuse(BELOW);
        }
        if (v > MOST_HEIGHT) {
            return refuse(ROOM);
        }
        int was = now.heights[cell];
        now.heights[cell] = v;
        return was;
    }

    public int kerbs(int cell) {
        if (!isCell(cell)) {
            return refuse(NOBODY);
        }
        now.kerb[cell] = 1 - now.kerb[cell];
        return now.kerb[cell];
    }

    public int stands(int cell) {
        if (!isCell(cell)) {
            return refuse(NOBODY);
        }
        int was = now.at;
        now.at = cell;
        return was;
    }

    public int goal(int cell) {
        if (!isCell(cell)) {
            return refuse(NOBODY);
        }
        int was = now.goal;
        now.goal = cell;
        return was;
    }

    public int weighs(int v) {
        if (v < 0) {
            return refuse(BELOW);
        }
        if (v > MOST_WEIGHT) {
            return refuse(ROOM);
        }
        int was = now.weight;
        now.weight = v;
        return was;
    }

    public int steps(int minister) {
        if (!isMinister(minister)) {
            return refuse(NOBODY);
        }
        now.putLast(minister);
        return now.firstInRow();
    }

    public int turn(int minister, int kind, int figure) {
        if (!isMinister(minister)) {
            return refuse(NOBODY);
        }
        if (kind < 0 || kind >= KINDS) {
            return refuse(OTHER);
        }
        if (figure < 0) {
            return refuse(BELOW);
        }
        if (figure > MOST_FIGURE) {
            return refuse(ROOM);
        }
        int was = 10 * now.kinds[minister] + now.figures[minister];
        now.kinds[minister] = kind;
        now.figures[minister] = figure;
        return was;
    }

    public int goes(int n) {
        if (n < 1) {
            return refuse(BELOW);
        }
        if (n > MOST_STEPS || now.step + n > LAST_STEP) {
            return refuse(ROOM);
        }
        now.advanceBy(n);
        return now.at;
    }

    public int then(int n, int what) {
        if (n < 0) {
            return refuse(BELOW);
        }
        if (n > MOST_STEPS) {
            return refuse(ROOM);
        }
        if (what < 0 || what > 2) {
            return refuse(OTHER);
        }
        Kingdom later = asNow();
        later.advanceBy(n);
        if (what == 0) {
            return later.at;
        }
        return what == 1 ? later.firstInRow() : later.allFalls();
    }

    public int fallsThen(int minister, int n) {
        if (!isMinister(minister)) {
            return refuse(NOBODY);
        }
        if (n < 0) {
            return refuse(BELOW);
        }
        if (n > MOST_STEPS) {
            return refuse(ROOM);
        }
        Kingdom later = asNow();
        later.advanceBy(n);
        return later.falls[minister];
    }

    public int comes(int cell) {
        if (cell != -1 && !isCell(cell)) {
            return refuse(NOBODY);
        }
        int when = asNow().whenAt(cell == -1 ? now.goal : cell);
        return when == NEVER ? NONE : when;
    }

    public int down(int minister) {
        if (minister == -1) {
            soonest.below(NEVER);
            for (int who = 0; who < now.ministers; who++) {
                soonest.offer(who, asNow().whenFalls(who));
            }
            return soonest.which;
        }
        if (!isMinister(minister)) {
            return refuse(NOBODY);
        }
        int when = asNow().whenFalls(minister);
        return when == NEVER ? NONE : when;
    }

    public int stuck() {
        Kingdom later = asNow();
        int since = 0;
        for (int n = 1; n <= MOST_STEPS + STUCK_FOR; n++) {
            int before = later.at;
            later.advance(0);
            if (later.at != before) {
                since = n;
            }
            if (n - since >= STUCK_FOR) {
                return since;
            }
        }
        return NONE;
    }

    public int climb(int cell, int what) {
        if (!isCell(cell)) {
            return refuse(NOBODY);
        }
        if (what < 0 || what > 1) {
            return refuse(OTHER);
        }
        for (int i = 0; i < CELLS; i++) {
            climbs[i] = NEVER;
        }
        climbs[now.at] = 0;
        boolean better = true;
        // The best way visits a CELL once at most, so that many rounds settle it.
        for (int round = 0; round < CELLS && better; round++) {
            better = shortenClimbs(what == 1 ? 2 : 0);
        }
        return climbs[cell];
    }

    public int push() {
        soonest.below(asNow().whenThere());
        for (int who = 0; who < now.ministers; who++) {
            Kingdom other = asNow();
            other.putFirst(who);
            soonest.offer(who, other.whenThere());
        }
        return soonest.which;
    }

    public int take() {
        soonest.below(asNow().whenThere());
        for (int cell = 0; cell < CELLS; cell++) {
            if (now.kerb[cell] == 1) {
                Kingdom other = asNow();
                other.kerb[cell] = 0;
                soonest.offer(cell, other.whenThere());
            }
        }
        return soonest.which;
    }

    public int flat() {
        soonest.below(asNow().whenThere());
        for (int cell = 0; cell < CELLS; cell++) {
            Kingdom other = asNow();
            other.heights[cell] = 0;
            soonest.offer(cell, other.whenThere());
        }
        return soonest.which;
    }

    public int mostWeight() {
        for (int weight = MOST_WEIGHT; weight >= 0; weight--) {
            Kingdom other = asNow();
            other.weight = weight;
            if (other.whenThere() != NEVER) {
                return weight;
            }
        }
        return NONE;
    }

    public int start(int what) {
        if (what < 0 || what > 1) {
            return refuse(OTHER);
        }
        soonest.below(NEVER);
        for (int cell = 0; cell < CELLS; cell++) {
            if (cell != now.goal) {
                Kingdom other = asNow();
                other.at = cell;
                soonest.offer(cell, other.whenThere());
            }
        }
        return what == 0 ? soonest.which : soonest.whenOrNone();
    }

    public int bestKind(int minister, int what) {
        if (!isMinister(minister)) {
            return refuse(NOBODY);
        }
        if (what < 0 || what > 1) {
            return refuse(OTHER);
        }
        soonest.below(NEVER);
        for (int kind = 0; kind < KINDS; kind++) {
            Kingdom other = asNow();
            other.kinds[minister] = kind;
            soonest.offer(kind, other.whenThere());
        }
        return what == 0 ? soonest.which : soonest.whenOrNone();
    }

    public int far(int what) {
        switch (what) {
            case 0: return now.distance();
            case 1: return now.tallest();
            case 2: return now.kerbsIn(0, CELLS - 1);
            case 3: return now.kerbsIn(now.at, now.goal);
            default: return refuse(OTHER);
        }
    }

    public int easy(int what) {
        switch (what) {
            case 0: return now.easyCells();
            case 1: return now.sureMinisters();
            case 2: return now.clumsiest();
            default: return refuse(OTHER);
        }
    }

    public int two(int a, int b, int n) {
        if (!isMinister(a) || !isMinister(b) || a == b) {
            return refuse(NOBODY);
        }
        if (n < 0) {
            return refuse(BELOW);
        }
        if (n > 30) {
            return refuse(ROOM);
        }
        for (int pair = 0; pair < 4; pair++) {
            weighPair(Math.min(a, b), Math.max(a, b), pair, n);
        }
        for (int pair = 0; pair < 4; pair++) {
            boolean lesserStays = lesserHarm[pair] <= lesserHarm[pair ^ 2];
            boolean greaterStays = greaterHarm[pair] <= greaterHarm[pair ^ 1];
            if (lesserStays && greaterStays) {
                return 10 * (pair >> 1) + (pair & 1);
            }
        }
        return NONE;
    }

    public long plank(int cell, int n, int t, int part) {
        if (!isCell(cell)) {
            return refuseLong(NOBODY);
        }
        if (n < 0 || t < 2) {
            return refuseLong(BELOW);
        }
        if (n > 7 || t > 20) {
            return refuseLong(ROOM);
        }
        if (part < 0 || part > 1) {
            return refuseLong(OTHER);
        }
        long above = 0;
        for (int planks = 0; planks < 1 << n; planks++) {
            if (whereWithPlanks(planks, n) == cell) {
                above += power(t - 1, n - Integer.bitCount(planks));
            }
        }
        return partOfFraction(above, power(t, n), part);
    }

    public long mean(int part) {
        if (part < 0 || part > 1) {
            return refuseLong(OTHER);
        }
        int together = 0;
        for (int cell = 0; cell < CELLS; cell++) {
            together += now.heights[cell];
        }
        return partOfFraction(together, CELLS, part);
    }

    public int whoPushed(int what) {
        if (what < 0 || what > 1) {
            return refuse(OTHER);
        }
        return what == 0 ? ministersWhoFit() : kindsThatFit();
    }

    public int row(int v) {
        if (v < 0) {
            return refuse(BELOW);
        }
        if (v > 99 || numbersTold >= MOST_NUMBERS) {
            return refuse(ROOM);
        }
        numbers[numbersTold] = v;
        numbersTold++;
        return numbersTold;
    }

    public int judge() {
        int first = NONE;
        for (int i = numbersTold - 1; i >= 0; i--) {
            if (numbers[i] != now.heights[i]) {
                first = i;
            }
        }
        numbersTold = 0;
        return first;
    }

    public int clear() {
        int had = numbersTold;
        numbersTold = 0;
        return had;
    }

    public int lots(int n, int z, int what) {
        if (n < 1) {
            return refuse(BELOW);
        }
        if (n > 20) {
            return refuse(ROOM);
        }
        if (what < 0 || what > 1) {
            return refuse(OTHER);
        }
        int there = 0;
        int fell = 0;
        int seed = z;
        for (int i = 0; i < n; i++) {
            Kingdom day = asNow();
            seed = nextSeed(seed);
            day.at = draw(seed, CELLS);
            seed = nextSeed(seed);
            day.goal = draw(seed, CELLS);
            seed = nextSeed(seed);
            day.weight = draw(seed, 11);
            day.advanceBy(12);
            there += day.at == day.goal ? 1 : 0;
            fell += day.allFalls() - now.allFalls();
        }
        return what == 0 ? there : fell;
    }

    public int image() {
        kept.become(now);
        imageTaken = true;
        return now.step;
    }

    public int on() {
        if (!imageTaken) {
            return refuse(STATE);
        }
        now.become(kept);
        return now.step;
    }

    public int count(int what) {
        switch (what) {
            case 0: return now.ministers;
            case 1: return now.step;
            case 2: return now.at;
            case 3: return now.goal;
            case 4: return now.weight;
            case 5: return now.allFalls();
            case 6: return numbersTold;
            case 7: return told.size;
            default: return what >= 11 && what <= 16 ? refusals[what - 10] : NONE;
        }
    }

    private int refuse(int refusal) {
        refusals[-refusal]++;
        return refusal;
    }

    private long refuseLong(int refusal) {
        return LONG_REFUSAL - refuse(refusal);
    }

    private boolean isMinister(int minister) {
        return minister >= 0 && minister < now.ministers;
    }

    private static boolean isCell(int cell) {
        return cell >= 0 && cell < CELLS;
    }

    private static int cellBeyond(int cell, int way) {
        switch (way) {
            case UP: return cell >= SIDE ? cell - SIDE : NONE;
            case RIGHT: return cell % SIDE < SIDE - 1 ? cell + 1 : NONE;
            case DOWN: return cell < CELLS - SIDE ? cell + SIDE : NONE;
            case LEFT: return cell % SIDE > 0 ? cell - 1 : NONE;
            default: return NONE;
        }
    }

    private Kingdom asNow() {
        mind.become(now);
        return mind;
    }

    /** One round over all CELLS; tells whether a way with less to climb was found. */
    private boolean shortenClimbs(int kerbCost) {
        boolean better = false;
        for (int from = 0; from < CELLS; from++) {
            for (int way = 0; way < WAYS; way++) {
                int to = cellBeyond(from, way);
                if (to != NONE) {
                    int rise = Math.max(0, now.heights[to] - now.heights[from]);
                    int cost = climbs[from] + rise + kerbCost * now.kerb[to];
                    if (cost < climbs[to]) {
                        climbs[to] = cost;
                        better = true;
                    }
                }
            }
        }
        return better;
    }

    /** In a pair the higher bit is the lesser minister's stepping back, the lower one the other's. */
    private void weighPair(int lesser, int greater, int pair, int n) {
        int lesserBack = pair >> 1;
        int greaterBack = pair & 1;
        Kingdom later = asNow();
        if (lesserBack == 1) {
            later.putLast(lesser);
        }
        if (greaterBack == 1) {
            later.putLast(greater);
        }
        later.advanceBy(n);
        lesserHarm[pair] = later.falls[lesser] - now.falls[lesser] + lesserBack;
        greaterHarm[pair] = later.falls[greater] - now.falls[greater] + greaterBack;
    }

    /** Each bit of planks tells whether there is one in the STEP of its number. */
    private int whereWithPlanks(int planks, int n) {
        Kingdom later = asNow();
        for (int i = 0; i < n; i++) {
            later.advance((planks >> i & 1) == 1 ? 5 : 0);
        }
        return later.at;
    }

    private int ministersWhoFit() {
        int bits = 0;
        for (int who = 0; who < now.ministers; who++) {
            Kingdom other = asNow();
            other.putFirst(who);
            if (goesByNumbers(other)) {
                bits |= 1 << who;
            }
        }
        return bits;
    }

    private int kindsThatFit() {
        if (now.ministers == 0) {
            return 0;
        }
        int bits = 0;
        for (int kind = 0; kind < KINDS; kind++) {
            Kingdom other = asNow();
            other.kinds[other.order[0]] = kind;
            if (goesByNumbers(other)) {
                bits |= 1 << kind;
            }
        }
        return bits;
    }

    private boolean goesByNumbers(Kingdom other) {
        for (int i = 0; i < numbersTold; i++) {
            if (other.at != numbers[i]) {
                return false;
            }
            other.advance(0);
        }
        return true;
    }

    private static int nextSeed(int seed) {
        return seed * 1664525 + 1013904223;
    }

    /** Answers what the seed draws below a bound above 0. */
    private static int draw(int seed, int bound) {
        return (seed & 0x7fffffff) / 256 % bound;
    }

    private static long power(long base, int exponent) {
        long product = 1;
        for (int i = 0; i < exponent; i++) {
            product *= base;
        }
        return product;
    }

    /** Of the fraction in its lowest terms, part 0 what stands above the line, else what is below. */
    private static long partOfFraction(long above, long below, int part) {
        long divisor = greatestDivisor(above, below);
        if (divisor == 0) {
            return 0;
        }
        return (part == 0 ? above : below) / divisor;
    }

    private static long greatestDivisor(long a, long b) {
        long divisor = a;
        long rest = b;
        // Each two rounds halve the rest at least: a long needs less than 128.
        for (int round = 0; round < 200 && rest != 0; round++) {
            long next = divisor % rest;
            divisor = rest;
            rest = next;
        }
        return divisor;
    }

    /** The kind "m". Each other kind tells only in what it differs from the one above it. */
    private static class Minister {
        /** Which WAY he pushes in a STEP: asked only where there is a SIGN. */
        int wayFrom(int at, int sign, int last, int step) {
            return sign;
        }

        int strength(int figure) {
            return figure + 6;
        }
    }

    private static class LeftOne extends Minister {
        int wayFrom(int at, int sign, int last, int step) {
            return step % 3 == 0 ? (sign + WAYS - 1) % WAYS : sign;
        }

        int strength(int figure) {
            return super.strength(figure) + 2;
        }
    }

    private static class Speaker extends Minister {
        int wayFrom(int at, int sign, int last, int step) {
            return step % 4 != 0 && cellBeyond(at, last) != NONE ? last : sign;
        }
    }

    private static final class Deaf extends Speaker {
        int wayFrom(int at, int sign, int last, int step) {
            return cellBeyond(at, last) != NONE ? last : sign;
        }

        int strength(int figure) {
            return super.strength(figure) - 1;
        }
    }

    private static final class Runner extends LeftOne {
        int wayFrom(int at, int sign, int last, int step) {
            return sign;
        }

        int strength(int figure) {
            return 2 * super.strength(figure);
        }
    }

    private static final class Opposite extends LeftOne {
        int wayFrom(int at, int sign, int last, int step) {
            int way = super.wayFrom(at, sign, last, step);
            int against = (way + 2) % WAYS;
            return cellBeyond(at, against) != NONE ? against : way;
        }
    }

    /** All that an image keeps, and how a STEP changes it. */
    private static final class Kingdom {
        final Minister[] rules;
        final int[] heights = new int[CELLS];
        /** 1 where a KERB is, else 0. */
        final int[] kerb = new int[CELLS];
        final int[] kinds = new int[MOST_MINISTERS];
        final int[] figures = new int[MOST_MINISTERS];
        final int[] falls = new int[MOST_MINISTERS];
        /** THE ROW: which minister is in each place. */
        final int[] order = new int[MOST_MINISTERS];
        int ministers;
        int at;
        int goal = CELLS - 1;
        int lastWay = RIGHT;
        int weight = 5;
        int step;

        /** The rules of the kinds by their numbers, which all kingdoms share. */
        Kingdom(Minister[] rules) {
            this.rules = rules;
        }

        void become(Kingdom other) {
            System.arraycopy(other.heights, 0, heights, 0, CELLS);
            System.arraycopy(other.kerb, 0, kerb, 0, CELLS);
            System.arraycopy(other.kinds, 0, kinds, 0, MOST_MINISTERS);
            System.arraycopy(other.figures, 0, figures, 0, MOST_MINISTERS);
            System.arraycopy(other.falls, 0, falls, 0, MOST_MINISTERS);
            System.arraycopy(other.order, 0, order, 0, MOST_MINISTERS);
            ministers = other.ministers;
            at = other.at;
            goal = other.goal;
            lastWay = other.lastWay;
            weight = other.weight;
            step = other.step;
        }

        /** One more, where there is room. */
        void addMinister(int kind, int figure) {
            if (ministers < MOST_MINISTERS) {
                kinds[ministers] = kind;
                figures[ministers] = figure;
                falls[ministers] = 0;
                order[ministers] = ministers;
                ministers++;
            }
        }

        int strengthOf(int who) {
            return rules[kinds[who]].strength(figures[who]);
        }

        int firstInRow() {
            return ministers == 0 ? NONE : order[0];
        }

        int placeOf(int who) {
            for (int place = 0; place < ministers; place++) {
                if (order[place] == who) {
                    return place;
                }
            }
            return NONE;
        }

        void putLast(int who) {
            int place = 0;
            for (int i = 0; i < ministers; i++) {
                if (order[i] != who) {
                    order[place] = order[i];
                    place++;
                }
            }
            if (place < ministers) {
                order[place] = who;
            }
        }

        void putFirst(int who) {
            int place = ministers - 1;
            for (int i = ministers - 1; i >= 0; i--) {
                if (order[i] != who) {
                    order[place] = order[i];
                    place--;
                }
            }
            if (place >= 0) {
                order[place] = who;
            }
        }

        int allFalls() {
            int together = 0;
            for (int who = 0; who < ministers; who++) {
                together += falls[who];
            }
            return together;
        }

        int sign() {
            int rows = goal / SIDE - at / SIDE;
            if (rows != 0) {
                return rows < 0 ? UP : DOWN;
            }
            if (goal == at) {
                return NONE;
            }
            return goal < at ? LEFT : RIGHT;
        }

        /** The WAY that the first pushes in the next STEP, or NONE if nothing happens in it. */
        int nextWay() {
            if (ministers == 0 || at == goal) {
                return NONE;
            }
            return rules[kinds[order[0]]].wayFrom(at, sign(), lastWay, step + 1);
        }

        int loadInto(int cell) {
            if (cell == NONE) {
                return NONE;
            }
            int rise = Math.max(0, heights[cell] - heights[at]);
            return weight + 3 * rise + 4 * kerb[cell];
        }

        /** A STEP in which the LOAD is some more. */
        void advance(int moreLoad) {
            int way = nextWay();
            int to = cellBeyond(at, way);
            step++;
            if (to == NONE) {
                return;
            }
            int who = order[0];
            if (loadInto(to) + moreLoad > strengthOf(who)) {
                falls[who] = Math.min(MOST_FALLS, falls[who] + 1);
                putLast(who);
            } else {
                at = to;
                lastWay = way;
            }
        }

        void advanceBy(int n) {
            for (int i = 0; i < n; i++) {
                advance(0);
            }
        }

        /** Goes on until the barrow is at the cell, for as many STEPS as are looked at. */
        int whenAt(int cell) {
            for (int n = 0; n < MOST_STEPS; n++) {
                if (at == cell) {
                    return n;
                }
                advance(0);
            }
            return at == cell ? MOST_STEPS : NEVER;
        }

        int whenThere() {
            return whenAt(goal);
        }

        /** Goes on until he has FALLS more than he had, for as many STEPS as are looked at. */
        int whenFalls(int who) {
            int had = falls[who];
            for (int n = 1; n <= MOST_STEPS; n++) {
                advance(0);
                if (falls[who] > had) {
                    return n;
                }
            }
            return NEVER;
        }

        int distance() {
            int rows = Math.abs(goal / SIDE - at / SIDE);
            int columns = Math.abs(goal % SIDE - at % SIDE);
            return rows + columns;
        }

        int tallest() {
            int best = 0;
            for (int cell = 1; cell < CELLS; cell++) {
                if (heights[cell] > heights[best]) {
                    best = cell;
                }
            }
            return best;
        }

        /** How many KERBS are in the square of which these two are corners. */
        int kerbsIn(int corner, int opposite) {
            int top = Math.min(corner / SIDE, opposite / SIDE);
            int bottom = Math.max(corner / SIDE, opposite / SIDE);
            int left = Math.min(corner % SIDE, opposite % SIDE);
            int right = Math.max(corner % SIDE, opposite % SIDE);
            int found = 0;
            for (int y = top; y <= bottom; y++) {
                for (int x = left; x <= right; x++) {
                    found += kerb[y * SIDE + x];
                }
            }
            return found;
        }

        int easyCells() {
            if (ministers == 0) {
                return 0;
            }
            int bits = 0;
            for (int way = 0; way < WAYS; way++) {
                int to = cellBeyond(at, way);
                if (to != NONE && loadInto(to) <= strengthOf(order[0])) {
                    bits |= 1 << to;
                }
            }
            return bits;
        }

        int sureMinisters() {
            int bits = 0;
            for (int who = 0; who < ministers; who++) {
                if (strengthOf(who) >= weight + 13) {
                    bits |= 1 << who;
                }
            }
            return bits;
        }

        int clumsiest() {
            int best = ministers == 0 ? NONE : 0;
            for (int who = 1; who < ministers; who++) {
                if (falls[who] > falls[best]) {
                    best = who;
                }
            }
            return best;
        }
    }

    /** Of what is offered in order, the first that is soonest and below a bound. */
    private static final class Soonest {
        int which;
        int when;

        void below(int bound) {
            which = NONE;
            when = bound;
        }

        void offer(int candidate, int itsWhen) {
            if (itsWhen < when) {
                which = candidate;
                when = itsWhen;
            }
        }

        int whenOrNone() {
            return which == NONE ? NONE : when;
        }
    }

    /** The letters in which a kingdom is told. */
    private static final class Telling {
        private static final String KIND_LETTERS = "mlsdro";

        final int[] letters = new int[MOST_LETTERS];
        int size;
        /** Where each statement begins: known when firstMisfit has found none. */
        private final int[] starts = new int[MOST_LETTERS];
        private int statements;

        void hear(int letter) {
            if (size < MOST_LETTERS) {
                letters[size] = letter;
                size++;
            }
        }

        /** The FAULT, or NONE. */
        int faultIn(Kingdom kingdom) {
            int misfit = firstMisfit();
            if (misfit != NONE) {
                return -1000 - misfit;
            }
            int wrong = firstWrongStatement(kingdom);
            return wrong == NONE ? NONE : -2000 - wrong;
        }

        /** Lets all of it come; what has a FAULT must not get here. Answers how many STATEMENTS. */
        int tellTo(Kingdom kingdom) {
            for (int i = 0; i < statements; i++) {
                tellStatement(starts[i], kingdom);
            }
            return statements;
        }

        /** What must stand behind a statement's first letter: 9 a digit, K a kind; none if empty. */
        private static String shapeOf(int letter) {
            switch (letter) {
                case 'c': return "999;";
                case 'm': return "K9;";
                case 'x': return "9;";
                case 'k':
                case 'b':
                case 'g':
                case 'w':
                case 's': return "99;";
                default: return "";
            }
        }

        private static boolean fits(int letter, char shape) {
            if (shape == '9') {
                return letter >= '0' && letter <= '9';
            }
            if (shape == 'K') {
                return KIND_LETTERS.indexOf((char) letter) >= 0;
            }
            return letter == shape;
        }

        private int firstMisfit() {
            statements = 0;
            int place = 0;
            do {
                int misfit = misfitFrom(place);
                if (misfit != NONE) {
                    return misfit;
                }
                starts[statements] = place;
                statements++;
                place += 1 + shapeOf(letters[place]).length();
            } while (place < size);
            return NONE;
        }

        /** Where the statement that begins at a place goes wrong; the end, if it is cut short. */
        private int misfitFrom(int place) {
            if (place >= size) {
                return place;
            }
            String shape = shapeOf(letters[place]);
            if (shape.isEmpty()) {
                return place;
            }
            for (int i = 0; i < shape.length(); i++) {
                int next = place + 1 + i;
                if (next >= size || !fits(letters[next], shape.charAt(i))) {
                    return next;
                }
            }
            return NONE;
        }

        private int firstWrongStatement(Kingdom kingdom) {
            int ministers = kingdom.ministers;
            int step = kingdom.step;
            for (int i = 0; i < statements; i++) {
                int place = starts[i];
                if (isWrong(place, ministers, step)) {
                    return place;
                }
                if (letters[place] == 'm') {
                    ministers++;
                }
                if (letters[place] == 's') {
                    step += twoDigits(place + 1);
                }
            }
            return NONE;
        }

        /** With so many ministers and STEPS so far. */
        private boolean isWrong(int place, int ministers, int step) {
            int number = twoDigits(place + 1);
            switch (letters[place]) {
                case 'm': return ministers >= MOST_MINISTERS;
                case 'x': return digit(place + 1) >= ministers;
                case 'w': return number > MOST_WEIGHT;
                case 's': return number < 1 || number > MOST_STEPS || step + number > LAST_STEP;
                default: return !isCell(number);
            }
        }

        private void tellStatement(int place, Kingdom kingdom) {
            int number = twoDigits(place + 1);
            switch (letters[place]) {
                case 'c': kingdom.heights[number] = digit(place + 3); break;
                case 'k': kingdom.kerb[number] = 1 - kingdom.kerb[number]; break;
                case 'm': kingdom.addMinister(kindAt(place + 1), digit(place + 2)); break;
                case 'b': kingdom.at = number; break;
                case 'g': kingdom.goal = number; break;
                case 'w': kingdom.weight = number; break;
                case 'x': kingdom.putLast(digit(place + 1)); break;
                case 's': kingdom.advanceBy(number); break;
                default: break;
            }
        }

        private int kindAt(int place) {
            return KIND_LETTERS.indexOf((char) letters[place]);
        }

        private int digit(int place) {
            return place < size ? letters[place] - '0' : 0;
        }

        private int twoDigits(int place) {
            return 10 * digit(place) + digit(place + 1);
        }
    }
}
