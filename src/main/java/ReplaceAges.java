import java.util.Arrays;

/**
 * A planner of replacement ages; ../shared/DOC.md tells its promises, and the words in capitals
 * below are that document's words.
 */
public final class ReplaceAges {
    public static final int BAD = -1, NOT = -2, FULL = -3, NONE = -4, NULL = -11, CAST = -12, INDEX = -13, SIZE = -14;

    private static final int MOST_AGES = 8, MOST_WEIGHT = 9, MOST_ALL = 24, MOST_COST = 99, MOST_RULE = 8;
    private static final int MOST_BLOCK = 10, MOST_AHEAD = 5, MOST_PAIRED = 3, MOST_RUN = 100, MOST_TURNS = 40;
    private static final int MOST_SEEN = 12, MOST_KNOWN = 6, MOST_LETTERS = 60, MOST_ITEMS = 24, SHEETS = 4, LANES = 4;
    private static final int FIRST_FAULT = -20, LOWEST_31_BITS = 0x7fffffff;

    private static final int ABOVE = 0, BELOW = 1;

    // Euclid's steps for two longs are below 100, whatever they are.
    private static final int MOST_STEPS = 100;

    private final Plan plan = new Plan();
    private final Past past = new Past();
    private final Plan imagePlan = new Plan();
    private final Past imagePast = new Past();
    private boolean imageKept;
    private final Text tape = new Text();
    private final Sheet[] sheets = new Sheet[SHEETS];
    private final Table seenTable = new Table();
    private final Renewal renewal = new Renewal();
    private final Outlook outlook = new Outlook();

    public ReplaceAges() {
        for (int s = 0; s < SHEETS; s++) {
            sheets[s] = new Sheet();
        }
    }

    // ---- 1 the table

    public int weigh(int k, int v) {
        Table table = plan.table;
        if (k < 1 || k > table.n || v < 0 || v > MOST_WEIGHT) {
            return BAD;
        }
        int was = table.weightOf(k);
        if (v == was) {
            return NOT;
        }
        if (table.all() - was + v > MOST_ALL) {
            return FULL;
        }
        if (!table.mayHold(k, v)) {
            return NONE;
        }
        past.keep(plan);
        table.put(k, v);
        plan.partAge = 0;
        return was;
    }

    public int ages(int v) {
        Table table = plan.table;
        if (v < 1 || v > MOST_AGES) {
            return BAD;
        }
        int was = table.n;
        if (v == was) {
            return NOT;
        }
        if (v > was && table.all() + v - was > MOST_ALL) {
            return FULL;
        }
        if (v < was && table.weightOf(v) == 0) {
            return NONE;
        }
        past.keep(plan);
        table.resize(v);
        plan.partAge = 0;
        return was;
    }

    public int tell(int what, int v) {
        if (what < 0 || what > 2 || v < leastTold(what) || v > mostTold(what)) {
            return BAD;
        }
        int was = plan.told(what);
        if (v == was) {
            return NOT;
        }
        past.keep(plan);
        plan.putTold(what, v);
        return was;
    }

    public int age(int k, int what) {
        Table table = plan.table;
        if (k < 1 || k > table.n || what < 0 || what > 3) {
            return BAD;
        }
        if (what == 2) {
            return table.weightOf(k);
        }
        if (what == 3) {
            return table.left(k);
        }
        return (int) lowest(table.weightOf(k), table.left(k - 1), what);
    }

    public int count(int what) {
        switch (what) {
            case 0: return plan.table.n;
            case 1: return plan.table.all();
            case 2: return plan.failure;
            case 3: return plan.change;
            case 4: return plan.rule;
            case 5: return plan.partAge;
            case 6: return plan.failures;
            case 7: return plan.changes;
            case 8: return plan.periods;
            case 9: return plan.bill;
            case 10: return plan.table.trend();
            case 11: return plan.table.bestAge(plan.failure, plan.change);
            case 12: return renewal.bestBlock(plan);
            case 13: return past.known;
            default: return BAD;
        }
    }

    public int mean(int what) {
        if (isNoSide(what)) {
            return BAD;
        }
        Table table = plan.table;
        return (int) lowest(table.served(table.n), table.all(), what);
    }

    public int rate(int a, int what) {
        Table table = plan.table;
        if (a < 1 || a > table.n || isNoSide(what)) {
            return BAD;
        }
        return (int) lowest(table.cost(a, plan.failure, plan.change), table.served(a), what);
    }

    public long fails(int t, int what) {
        if (t < 0 || t > MOST_BLOCK || isNoSide(what)) {
            return BAD;
        }
        renewal.reckon(plan.table);
        return lowest(renewal.expectedUpTo(t), renewal.scale, what);
    }

    public long block(int b, int what) {
        if (b < 1 || b > MOST_BLOCK || isNoSide(what)) {
            return BAD;
        }
        renewal.reckon(plan.table);
        return lowest(renewal.blockCost(b, plan), b * renewal.scale, what);
    }

    // ---- 2 what is best

    public long least(int h, int i, int what) {
        if (h < 0 || h > MOST_AHEAD || i < 0 || i >= plan.table.n || what < 0 || what > 2) {
            return BAD;
        }
        outlook.reckon(plan, h);
        if (what == 2) {
            return outlook.isBetter(i, plan.table) ? 1 : 0;
        }
        return lowest(outlook.costFrom(i), outlook.scale * plan.table.left(i), what);
    }

    public long pair(int g, int h, int what) {
        Table table = plan.table;
        if (g < 1 || g > table.n || h < 0 || h > MOST_PAIRED || isNoSide(what)) {
            return BAD;
        }
        long all = table.all();
        return lowest(pairCost(plan, g, h, 0, 0), power(all, 2 * h + 2), what);
    }

    public int run(int n) {
        if (n < 1 || n > MOST_RUN) {
            return BAD;
        }
        past.keep(plan);
        int before = plan.failures;
        for (int period = 0; period < n; period++) {
            plan.runPeriod();
        }
        return plan.failures - before;
    }

    // ---- 3 what is done

    public int type(int letter) {
        if (letter < 32 || letter > 126) {
            return BAD;
        }
        return tape.add((char) letter) ? tape.size : FULL;
    }

    public int read() {
        boolean good = tape.scan();
        tape.size = 0;
        if (!good) {
            return FIRST_FAULT - tape.fault;
        }
        past.keep(plan);
        plan.table.takeFrom(tape.table);
        if (tape.costsTold) {
            plan.failure = tape.failure;
            plan.change = tape.change;
        }
        plan.partAge = 0;
        return plan.table.n;
    }

    public int drift(int n) {
        if (n < 1 || n > MOST_TURNS) {
            return BAD;
        }
        for (int turn = 0; turn < n; turn++) {
            past.keep(plan);
            plan.turn();
        }
        return plan.table.all();
    }

    public int undo() {
        return past.giveBack(plan) ? past.known : NONE;
    }

    public int seed(int v) {
        if (v < 0) {
            return BAD;
        }
        int was = plan.draw;
        plan.draw = v;
        return was;
    }

    public int image() {
        imagePlan.takeFrom(plan);
        imagePast.takeFrom(past);
        imageKept = true;
        return 1;
    }

    public int restore() {
        if (!imageKept) {
            return NONE;
        }
        plan.takeFrom(imagePlan);
        past.takeFrom(imagePast);
        return 1;
    }

    // ---- sheets

    public int seen(int sheet, int lane, int i, int n) {
        if (isNoSheet(sheet) || isNoLane(lane) || n < 1 || n > MOST_SEEN) {
            return BAD;
        }
        Sheet from = sheets[sheet];
        int found = from.refusal(lane, i, n);
        if (found != 0) {
            return found;
        }
        seenTable.empty();
        for (int at = i; at < i + n; at++) {
            long seenAge = from.get(at);
            if (seenAge < 1 || seenAge > MOST_AGES) {
                return NOT;
            }
            seenTable.addOne((int) seenAge);
        }
        return seenTable.bestAge(plan.failure, plan.change);
    }

    public int film(int sheet, int lane, int i) {
        if (isNoSheet(sheet) || isNoLane(lane)) {
            return BAD;
        }
        Sheet to = sheets[sheet];
        int n = plan.table.n;
        int found = to.refusal(lane, i, n);
        if (found != 0) {
            return found;
        }
        for (int k = 1; k <= n; k++) {
            to.put(i + k - 1, plan.table.weightOf(k));
        }
        return n;
    }

    public int sheet(int sheet, int lane, int n) {
        if (isNoSheet(sheet) || isNoLane(lane) || n > MOST_ITEMS) {
            return BAD;
        }
        if (n < 0) {
            return SIZE;
        }
        sheets[sheet].begin(lane, n);
        return n;
    }

    public int drop(int sheet) {
        if (isNoSheet(sheet)) {
            return BAD;
        }
        Sheet gone = sheets[sheet];
        if (!gone.there) {
            return NULL;
        }
        gone.there = false;
        return gone.length;
    }

    public int item(int sheet, int lane, int i, long v) {
        if (isNoSheet(sheet) || isNoLane(lane)) {
            return BAD;
        }
        Sheet to = sheets[sheet];
        int found = to.refusal(lane, i, 1);
        if (found != 0) {
            return found;
        }
        to.put(i, v);
        return 1;
    }

    public int copy(int from, int i, int to, int j, int n) {
        if (isNoSheet(from) || isNoSheet(to)) {
            return BAD;
        }
        Sheet source = sheets[from];
        Sheet goal = sheets[to];
        if (!source.there || !goal.there) {
            return NULL;
        }
        if (source.lane != goal.lane) {
            return CAST;
        }
        if (!source.holds(i, n) || !goal.holds(j, n)) {
            return INDEX;
        }
        System.arraycopy(source.items, i, goal.items, j, n);
        return n;
    }

    // ---- what the calls share

    private static boolean isNoSide(int what) {
        return what != ABOVE && what != BELOW;
    }

    private static boolean isNoSheet(int sheet) {
        return sheet < 0 || sheet >= SHEETS;
    }

    private static boolean isNoLane(int lane) {
        return lane < 0 || lane >= LANES;
    }

    private static int leastTold(int what) {
        return what == 1 ? 0 : 1;
    }

    private static int mostTold(int what) {
        return what == 2 ? MOST_RULE : MOST_COST;
    }

    /** One side of the fraction above by below, in lowest terms; above is not less than 0. */
    private static long lowest(long above, long below, int side) {
        long divisor = commonDivisor(above, below);
        long chosen = side == ABOVE ? above : below;
        return divisor > 1 ? chosen / divisor : chosen;
    }

    private static long commonDivisor(long a, long b) {
        long greater = a;
        long lesser = b;
        for (int step = 0; step < MOST_STEPS && lesser != 0; step++) {
            long rest = greater % lesser;
            greater = lesser;
            lesser = rest;
        }
        return greater;
    }

    private static long power(long base, int exponent) {
        long product = 1;
        for (int e = 0; e < exponent; e++) {
            product *= base;
        }
        return product;
    }

    /**
     * PAIR's cost of h periods from AGES i, j on, times LEFT of i, LEFT of j and ALL to the 2h:
     * by that it is a whole number, since a part's way to its failure has a chance of a WEIGHT
     * by LEFT of the AGE that it began with.
     */
    private static long pairCost(Plan plan, int g, int h, int i, int j) {
        Table table = plan.table;
        if (h <= 0 || h > MOST_PAIRED || i >= table.n || j >= table.n) {
            return 0;
        }
        long all = table.all();
        long firstFails = table.weightOf(i + 1);
        long secondFails = table.weightOf(j + 1);
        long bothNew = pairCost(plan, g, h - 1, 0, 0);
        long bothFail = 2 * plan.failure * power(all, 2 * h) + bothNew;
        return firstFails * secondFails * bothFail
            + firstFails * otherLasts(plan, g, h, j, bothNew)
            + secondFails * otherLasts(plan, g, h, i, bothNew)
            + all * all * pairCost(plan, g, h - 1, i + 1, j + 1);
    }

    /** The share of pairCost in which one part fails and the other one, of AGE i, does not. */
    private static long otherLasts(Plan plan, int g, int h, int i, long bothNew) {
        long all = plan.table.all();
        long lasting = plan.table.left(i + 1);
        long scale = power(all, 2 * h);
        if (i + 1 >= g) {
            return lasting * ((plan.failure + plan.change) * scale + bothNew);
        }
        return lasting * plan.failure * scale + all * pairCost(plan, g, h - 1, 0, i + 1);
    }

    /** THE TABLE: AGES 1 .. n, each with its WEIGHT. */
    private static final class Table {
        int n = 3;
        final int[] weights = {0, 1, 1, 1, 0, 0, 0, 0, 0};

        int weightOf(int k) {
            return k >= 1 && k <= n && k < weights.length ? weights[k] : 0;
        }

        void put(int k, int v) {
            if (k >= 1 && k < weights.length) {
                weights[k] = v;
            }
        }

        int left(int j) {
            int together = 0;
            for (int k = j + 1; k <= n; k++) {
                together += weightOf(k);
            }
            return together;
        }

        int all() {
            return left(0);
        }

        boolean mayHold(int k, int v) {
            return all() - weightOf(k) + v <= MOST_ALL && (k != n || v != 0);
        }

        void resize(int v) {
            for (int k = n + 1; k <= v; k++) {
                put(k, 1);
            }
            n = v;
        }

        void empty() {
            n = 0;
            Arrays.fill(weights, 0);
        }

        void addOne(int k) {
            n = Math.max(n, k);
            put(k, weightOf(k) + 1);
        }

        void takeFrom(Table other) {
            n = other.n;
            System.arraycopy(other.weights, 0, weights, 0, weights.length);
        }

        /** RATE's cost of AGE a, times ALL. */
        int cost(int a, int failure, int change) {
            return failure * (all() - left(a)) + change * left(a);
        }

        /** The periods that a part runs if replaced at AGE a, times ALL. */
        int served(int a) {
            int together = 0;
            for (int j = 0; j < a; j++) {
                together += left(j);
            }
            return together;
        }

        int bestAge(int failure, int change) {
            int best = 1;
            for (int a = 2; a <= n; a++) {
                if (cost(a, failure, change) * served(best) < cost(best, failure, change) * served(a)) {
                    best = a;
                }
            }
            return best;
        }

        /** RISING (1) and FALLING (2) together. */
        int trend() {
            boolean rising = true;
            boolean falling = true;
            for (int k = 2; k <= n; k++) {
                int here = weightOf(k) * left(k - 2);
                int ahead = weightOf(k - 1) * left(k - 1);
                rising = rising && here >= ahead;
                falling = falling && (here <= ahead || k == n);
            }
            return (rising ? 1 : 0) + (falling ? 2 : 0);
        }
    }

    /** All but SHEETS, THE TAPE, IMAGES and what may be UNDONE. */
    private static final class Plan {
        final Table table = new Table();
        int failure = 10;
        int change = 4;
        int rule = 8;
        int partAge;
        int failures;
        int changes;
        int periods;
        int bill;
        int draw = 1;

        void takeFrom(Plan other) {
            table.takeFrom(other.table);
            failure = other.failure;
            change = other.change;
            rule = other.rule;
            partAge = other.partAge;
            failures = other.failures;
            changes = other.changes;
            periods = other.periods;
            bill = other.bill;
            draw = other.draw;
        }

        int told(int what) {
            return what == 0 ? failure : what == 1 ? change : rule;
        }

        void putTold(int what, int v) {
            if (what == 0) {
                failure = v;
            } else if (what == 1) {
                change = v;
            } else {
                rule = v;
            }
        }

        /** Changes THE DRAW: the x of it. */
        int nextDraw() {
            draw = (draw * 1103515245 + 12345) & LOWEST_31_BITS;
            return draw / 65536;
        }

        void runPeriod() {
            int x = nextDraw();
            int left = table.left(partAge);
            periods++;
            // LEFT is never 0 here, as a part of AGE n less 1 always fails.
            if (left <= 0 || x % left < table.weightOf(partAge + 1)) {
                failures++;
                bill += failure;
                partAge = 0;
                return;
            }
            partAge++;
            if (partAge >= rule) {
                changes++;
                bill += change;
                partAge = 0;
            }
        }

        /** A turn of a DRIFT. */
        void turn() {
            int x = nextDraw();
            int k = table.n > 0 ? x % table.n + 1 : 1;
            int v = x / 8 % 10;
            if (table.mayHold(k, v)) {
                table.put(k, v);
                partAge = 0;
            }
        }
    }

    /** What may be UNDONE: how all was ahead of each thing done, the latest last. */
    private static final class Past {
        int known;
        final Plan[] plans = new Plan[MOST_KNOWN];

        Past() {
            for (int p = 0; p < MOST_KNOWN; p++) {
                plans[p] = new Plan();
            }
        }

        void keep(Plan plan) {
            if (known >= MOST_KNOWN) {
                loseOldest();
            }
            if (known >= 0 && known < plans.length) {
                plans[known].takeFrom(plan);
                known++;
            }
        }

        private void loseOldest() {
            Plan oldest = plans[0];
            for (int p = 1; p < MOST_KNOWN; p++) {
                plans[p - 1] = plans[p];
            }
            plans[MOST_KNOWN - 1] = oldest;
            known = MOST_KNOWN - 1;
        }

        /** Whether one was known, which the plan is as then. */
        boolean giveBack(Plan plan) {
            if (known < 1 || known > plans.length) {
                return false;
            }
            known--;
            plan.takeFrom(plans[known]);
            return true;
        }

        void takeFrom(Past other) {
            known = other.known;
            for (int p = 0; p < MOST_KNOWN; p++) {
                plans[p].takeFrom(other.plans[p]);
            }
        }
    }

    /** FAILS up to 0 .. 10, each times the same scale: ALL to the 10, by which each is whole. */
    private static final class Renewal {
        long scale = 1;
        final long[] expected = new long[MOST_BLOCK + 1];

        void reckon(Table table) {
            long all = table.all();
            scale = power(all, MOST_BLOCK);
            for (int t = 1; t <= MOST_BLOCK; t++) {
                expected[t] = 0;
                for (int k = 1; k <= t && k <= table.n && all > 0; k++) {
                    expected[t] += table.weightOf(k) * ((scale + expected[t - k]) / all);
                }
            }
        }

        long expectedUpTo(int t) {
            return t >= 0 && t < expected.length ? expected[t] : 0;
        }

        /** What BLOCK b costs in its b periods, times the scale. */
        long blockCost(int b, Plan plan) {
            return plan.failure * expectedUpTo(b) + plan.change * scale;
        }

        int bestBlock(Plan plan) {
            reckon(plan.table);
            int best = 1;
            for (int b = 2; b <= MOST_BLOCK; b++) {
                if (blockCost(b, plan) * best < blockCost(best, plan) * b) {
                    best = b;
                }
            }
            return best;
        }
    }

    /**
     * LEAST of some periods from each AGE i on, times LEFT of i and a scale, ALL to the number of
     * periods: by that each is whole.
     */
    private static final class Outlook {
        long scale = 1;
        // Of the first period: what it costs to keep the part, and to replace it (by the scale alone).
        final long[] keeping = new long[MOST_AGES + 1];
        long replacing;
        final long[] costs = new long[MOST_AGES + 1];

        void reckon(Plan plan, int h) {
            scale = 1;
            replacing = 0;
            Arrays.fill(keeping, 0);
            Arrays.fill(costs, 0);
            for (int periods = 1; periods <= h; periods++) {
                addPeriodAhead(plan);
            }
        }

        private void addPeriodAhead(Plan plan) {
            Table table = plan.table;
            long all = table.all();
            scale *= all;
            for (int i = 0; i < table.n && i + 1 < costs.length; i++) {
                keeping[i] = table.weightOf(i + 1) * (plan.failure * scale + costs[0]) + all * costs[i + 1];
            }
            replacing = plan.change * scale + (all > 0 ? keeping[0] / all : 0);
            for (int i = 0; i < table.n && i < costs.length; i++) {
                costs[i] = Math.min(keeping[i], table.left(i) * replacing);
            }
        }

        boolean isBetter(int i, Table table) {
            return i >= 0 && i < keeping.length && table.left(i) * replacing < keeping[i];
        }

        long costFrom(int i) {
            return i >= 0 && i < costs.length ? costs[i] : 0;
        }
    }

    /** THE TAPE, and what was read of it as a TEXT. */
    private static final class Text {
        final char[] letters = new char[MOST_LETTERS];
        int size;
        final Table table = new Table();
        boolean costsTold;
        int failure;
        int change;
        int fault;
        private int at;
        private int lastWeightAt;

        boolean add(char letter) {
            if (size < 0 || size >= letters.length) {
                return false;
            }
            letters[size] = letter;
            size++;
            return true;
        }

        /** Whether the letters are a TEXT, which is told then; else there is a fault. */
        boolean scan() {
            at = 0;
            costsTold = false;
            if (!scanWeights()) {
                return false;
            }
            if (at < size && !(scanSign(';') && scanCosts())) {
                return false;
            }
            return table.weightOf(table.n) > 0 || faultAt(lastWeightAt);
        }

        private boolean scanWeights() {
            table.empty();
            for (int k = 1; k <= MOST_AGES; k++) {
                skipBlanks();
                int v = figure();
                if (v < 0 || table.all() + v > MOST_ALL) {
                    return faultAt(at);
                }
                table.n = k;
                table.put(k, v);
                lastWeightAt = at;
                at++;
                skipBlanks();
                // A 9th WEIGHT's , is left, where only ; or the end can stand.
                if (letter() != ',' || k == MOST_AGES) {
                    return true;
                }
                at++;
            }
            return true;
        }

        private boolean scanCosts() {
            failure = scanNumber();
            if (failure < 0) {
                return false;
            }
            if (failure == 0) {
                return faultAt(at - 1);
            }
            if (!scanSign(',')) {
                return false;
            }
            change = scanNumber();
            if (change < 0) {
                return false;
            }
            skipBlanks();
            costsTold = true;
            return at == size || faultAt(at);
        }

        /** A number of one or two figures; below 0 if there is a fault. */
        private int scanNumber() {
            skipBlanks();
            int number = 0;
            for (int figures = 0; figures < 2; figures++) {
                int v = figure();
                if (v < 0) {
                    return figures > 0 || faultAt(at) ? number : -1;
                }
                number = number * 10 + v;
                at++;
            }
            return figure() < 0 || faultAt(at) ? number : -1;
        }

        private boolean scanSign(char sign) {
            skipBlanks();
            if (letter() != sign) {
                return faultAt(at);
            }
            at++;
            return true;
        }

        private void skipBlanks() {
            for (int tried = 0; tried < MOST_LETTERS && letter() == ' '; tried++) {
                at++;
            }
        }

        /** The letter that stands next; at the end 0, which can't be typed. */
        private char letter() {
            return at >= 0 && at < size && at < letters.length ? letters[at] : (char) 0;
        }

        private int figure() {
            char next = letter();
            return next >= '0' && next <= '9' ? next - '0' : -1;
        }

        /** Always false, for the answers of those who find the fault. */
        private boolean faultAt(int place) {
            fault = place;
            return false;
        }
    }

    /** A SHEET: nothing, or a row of a LANE; the room of it is made once. */
    private static final class Sheet {
        boolean there;
        int lane;
        int length;
        final long[] items = new long[MOST_ITEMS];

        void begin(int newLane, int newLength) {
            there = true;
            lane = newLane;
            length = newLength;
            Arrays.fill(items, 0);
        }

        /** Whether n items from i on are there. */
        boolean holds(int i, int n) {
            return n >= 0 && i >= 0 && n <= length && i <= length - n;
        }

        /** NULL, CAST or INDEX, if n items from i on can't be taken as a row of a LANE; else 0. */
        int refusal(int asLane, int i, int n) {
            if (!there) {
                return NULL;
            }
            if (asLane != lane) {
                return CAST;
            }
            return holds(i, n) ? 0 : INDEX;
        }

        long get(int i) {
            return i >= 0 && i < items.length ? items[i] : 0;
        }

        void put(int i, long v) {
            if (i >= 0 && i < items.length) {
                items[i] = lowestBits(v);
            }
        }

        private long lowestBits(long v) {
            switch (lane) {
                case 0: return (byte) v;
                case 1: return (short) v;
                case 2: return (int) v;
                default: return v;
            }
        }
    }
}
