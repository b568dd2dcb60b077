import java.math.BigInteger;
import java.util.ArrayList;
import java.util.Arrays;
import java.util.List;
import java.util.Random;
import java.util.regex.Matcher;
import java.util.regex.Pattern;

/**
 * Runs of random calls against a model of the document. The model is slow and plain, and reckons
 * in other ways than the class: chances go forward from period to period, fractions are of big
 * integers, a FAULT is found by which beginnings of a TEXT may go on.
 */
public final class ModelTests {
    private static int wrong = 0;
    private static int calls = 0;

    private static final long BAD = -1, NOT = -2, FULL = -3, NONE = -4, NULL = -11, CAST = -12, INDEX = -13, SIZE = -14;

    /** A fraction in lowest terms. */
    private static final class Fraction {
        static final Fraction ZERO = of(0, 1);
        final BigInteger above, below;

        private Fraction(BigInteger above, BigInteger below) {
            BigInteger g = above.gcd(below);
            this.above = above.divide(g);
            this.below = below.divide(g);
        }

        static Fraction of(long above, long below) {
            return new Fraction(BigInteger.valueOf(above), BigInteger.valueOf(below));
        }

        Fraction plus(Fraction f) {
            return new Fraction(above.multiply(f.below).add(f.above.multiply(below)), below.multiply(f.below));
        }

        Fraction times(Fraction f) {
            return new Fraction(above.multiply(f.above), below.multiply(f.below));
        }

        Fraction rest() {
            return new Fraction(below.subtract(above), below);
        }

        int against(Fraction f) {
            return above.multiply(f.below).compareTo(f.above.multiply(below));
        }

        long side(int what) {
            return (what == 0 ? above : below).longValueExact();
        }
    }

    /** What UNDONE gives back, as a row that is never changed once it is kept. */
    private static final class State implements Cloneable {
        int[] weights = {1, 1, 1};
        int failure = 10, change = 4, rule = 8, age, failures, changes, periods, bill, draw = 1;

        State twin() {
            try {
                State s = (State) clone();
                s.weights = weights.clone();
                return s;
            } catch (CloneNotSupportedException e) {
                throw new IllegalStateException(e);
            }
        }

        int all() {
            return Arrays.stream(weights).sum();
        }

        int left(int j) {
            return Arrays.stream(weights, j, weights.length).sum();
        }

        Fraction hazard(int k) {
            return Fraction.of(weights[k - 1], left(k - 1));
        }

        boolean tableMayBe() {
            return all() <= 24 && weights[weights.length - 1] > 0;
        }

        int change() {
            draw = BigInteger.valueOf(draw).multiply(BigInteger.valueOf(1103515245)).add(BigInteger.valueOf(12345))
                .mod(BigInteger.ONE.shiftLeft(31)).intValueExact();
            return draw >> 16;
        }
    }

    private static final class Model {
        State now = new State();
        List<State> past = new ArrayList<>();
        State image;
        List<State> imagePast;
        String tape = "";
        final long[][] sheets = new long[4][];
        final int[] lanes = new int[4];

        void keep() {
            past.add(now.twin());
            if (past.size() > 6) {
                past.remove(0);
            }
        }

        long weigh(int k, int v) {
            if (k < 1 || k > now.weights.length || v < 0 || v > 9) return BAD;
            int was = now.weights[k - 1];
            if (was == v) return NOT;
            State then = now.twin();
            then.weights[k - 1] = v;
            then.age = 0;
            if (then.all() > 24) return FULL;
            if (!then.tableMayBe()) return NONE;
            keep();
            now = then;
            return was;
        }

        long ages(int v) {
            int was = now.weights.length;
            if (v < 1 || v > 8) return BAD;
            if (v == was) return NOT;
            State then = now.twin();
            then.weights = Arrays.copyOf(now.weights, v);
            for (int k = was; k < v; k++) then.weights[k] = 1;
            then.age = 0;
            if (then.all() > 24) return FULL;
            if (!then.tableMayBe()) return NONE;
            keep();
            now = then;
            return was;
        }

        long tell(int what, int v) {
            if (what < 0 || what > 2) return BAD;
            if (what == 0 && (v < 1 || v > 99)) return BAD;
            if (what == 1 && (v < 0 || v > 99)) return BAD;
            if (what == 2 && (v < 1 || v > 8)) return BAD;
            int was = what == 0 ? now.failure : what == 1 ? now.change : now.rule;
            if (was == v) return NOT;
            keep();
            if (what == 0) now.failure = v;
            if (what == 1) now.change = v;
            if (what == 2) now.rule = v;
            return was;
        }

        long age(int k, int what) {
            if (k < 1 || k > now.weights.length || what < 0 || what > 3) return BAD;
            if (what < 2) return now.hazard(k).side(what);
            return what == 2 ? now.weights[k - 1] : now.left(k);
        }

        long count(int what) {
            long[] plain = {now.weights.length, now.all(), now.failure, now.change, now.rule, now.age, now.failures,
                now.changes, now.periods, now.bill};
            if (what >= 0 && what < 10) return plain[what];
            if (what == 10) return trend();
            if (what == 11) return bestAge(now);
            if (what == 12) return bestBlock();
            return what == 13 ? past.size() : BAD;
        }

        long trend() {
            int n = now.weights.length;
            boolean less = false, more = false;
            for (int k = 2; k <= n; k++) {
                int c = now.hazard(k).against(now.hazard(k - 1));
                if (c < 0) less = true;
                if (c > 0 && k < n) more = true;
            }
            return (less ? 0 : 1) + (more ? 0 : 2);
        }

        static Fraction mean(State s, int a) {
            // The period in which it fails, or a if it lasts so long.
            Fraction sum = Fraction.ZERO;
            for (int k = 1; k <= s.weights.length; k++) {
                sum = sum.plus(Fraction.of((long) s.weights[k - 1] * Math.min(k, a), s.all()));
            }
            return sum;
        }

        static Fraction ageRate(State s, int a) {
            Fraction cost = Fraction.ZERO;
            for (int k = 1; k <= s.weights.length; k++) {
                cost = cost.plus(Fraction.of((long) s.weights[k - 1] * (k <= a ? s.failure : s.change), s.all()));
            }
            Fraction m = mean(s, a);
            return cost.times(new Fraction(m.below, m.above));
        }

        static long bestAge(State s) {
            int best = 1;
            for (int a = 2; a <= s.weights.length; a++) {
                if (ageRate(s, a).against(ageRate(s, best)) < 0) best = a;
            }
            return best;
        }

        long mean(int what) {
            return what < 0 || what > 1 ? BAD : mean(now, 8).side(what);
        }

        long rate(int a, int what) {
            if (a < 1 || a > now.weights.length || what < 0 || what > 1) return BAD;
            return ageRate(now, a).side(what);
        }

        /** By the chances of each AGE ahead of each period. */
        Fraction failsUpTo(int t) {
            int n = now.weights.length;
            Fraction[] chances = new Fraction[n];
            Arrays.fill(chances, Fraction.ZERO);
            chances[0] = Fraction.of(1, 1);
            Fraction sum = Fraction.ZERO;
            for (int period = 1; period <= t; period++) {
                Fraction[] then = new Fraction[n];
                Arrays.fill(then, Fraction.ZERO);
                for (int i = 0; i < n; i++) {
                    Fraction fails = chances[i].times(now.hazard(i + 1));
                    sum = sum.plus(fails);
                    then[0] = then[0].plus(fails);
                    if (i + 1 < n) then[i + 1] = chances[i].times(now.hazard(i + 1).rest());
                }
                chances = then;
            }
            return sum;
        }

        Fraction blockRate(int b) {
            return failsUpTo(b).times(Fraction.of(now.failure, 1)).plus(Fraction.of(now.change, 1)).times(Fraction.of(1, b));
        }

        long bestBlock() {
            int best = 1;
            Fraction least = blockRate(1);
            for (int b = 2; b <= 10; b++) {
                Fraction f = blockRate(b);
                if (f.against(least) < 0) {
                    best = b;
                    least = f;
                }
            }
            return best;
        }

        long fails(int t, int what) {
            return t < 0 || t > 10 || what < 0 || what > 1 ? BAD : failsUpTo(t).side(what);
        }

        long block(int b, int what) {
            return b < 1 || b > 10 || what < 0 || what > 1 ? BAD : blockRate(b).side(what);
        }

        Fraction keeping(int h, int i) {
            Fraction q = now.hazard(i + 1);
            Fraction f = q.times(Fraction.of(now.failure, 1).plus(leastCost(h - 1, 0)));
            return i + 1 < now.weights.length ? f.plus(q.rest().times(leastCost(h - 1, i + 1))) : f;
        }

        Fraction leastCost(int h, int i) {
            if (h == 0) return Fraction.ZERO;
            Fraction kept = keeping(h, i), changed = keeping(h, 0).plus(Fraction.of(now.change, 1));
            return kept.against(changed) <= 0 ? kept : changed;
        }

        long least(int h, int i, int what) {
            if (h < 0 || h > 5 || i < 0 || i >= now.weights.length || what < 0 || what > 2) return BAD;
            if (what < 2) return leastCost(h, i).side(what);
            if (h == 0) return 0;
            return keeping(h, 0).plus(Fraction.of(now.change, 1)).against(keeping(h, i)) < 0 ? 1 : 0;
        }

        Fraction pairCost(int g, int h, int i, int j) {
            if (h == 0) return Fraction.ZERO;
            Fraction sum = Fraction.ZERO;
            for (int outcome = 0; outcome < 4; outcome++) {
                boolean a = (outcome & 1) != 0, b = (outcome & 2) != 0;
                Fraction p = a ? now.hazard(i + 1) : now.hazard(i + 1).rest();
                p = p.times(b ? now.hazard(j + 1) : now.hazard(j + 1).rest());
                if (p.above.signum() == 0) continue;
                int cost = (a ? now.failure : 0) + (b ? now.failure : 0);
                int i2 = a ? 0 : i + 1, j2 = b ? 0 : j + 1;
                if (a != b && (a ? j2 : i2) >= g) {
                    cost += now.change;
                    i2 = 0;
                    j2 = 0;
                }
                sum = sum.plus(p.times(Fraction.of(cost, 1).plus(pairCost(g, h - 1, i2, j2))));
            }
            return sum;
        }

        long pair(int g, int h, int what) {
            if (g < 1 || g > now.weights.length || h < 0 || h > 3 || what < 0 || what > 1) return BAD;
            return pairCost(g, h, 0, 0).side(what);
        }

        long run(int n) {
            if (n < 1 || n > 100) return BAD;
            keep();
            int failed = 0;
            for (int p = 0; p < n; p++) {
                int x = now.change();
                now.periods++;
                if (x % now.left(now.age) < now.weights[now.age]) {
                    failed++;
                    now.failures++;
                    now.bill += now.failure;
                    now.age = 0;
                } else if (++now.age >= now.rule) {
                    now.changes++;
                    now.bill += now.change;
                    now.age = 0;
                }
            }
            return failed;
        }

        long type(int letter) {
            if (letter < 32 || letter > 126) return BAD;
            if (tape.length() == 60) return FULL;
            tape += (char) letter;
            return tape.length();
        }

        private static final Pattern TEXT =
            Pattern.compile(" *[0-9] *(?:, *[0-9] *){0,7}(?:; *([0-9][0-9]?) *, *([0-9][0-9]?) *)?");
        private static final Pattern ZERO = Pattern.compile("^[^;]*; *(00?)(?![0-9])");

        /** The first place at which no TEXT goes on so, costs and sums aside; the length, if it ends too soon; -1. */
        static int standing(String text) {
            for (int end = 1; end <= text.length(); end++) {
                Matcher m = TEXT.matcher(text.substring(0, end));
                if (!m.matches() && !m.hitEnd()) return end - 1;
            }
            return TEXT.matcher(text).matches() ? -1 : text.length();
        }

        static int faultOf(String text) {
            int standing = standing(text);
            int fault = standing < 0 ? Integer.MAX_VALUE : standing;
            Matcher zero = ZERO.matcher(text);
            if (zero.find() && zero.end(1) - 1 < fault) fault = zero.end(1) - 1;
            int together = 0, lastFigure = -1;
            for (int p = 0; p < text.length() && p < fault && text.charAt(p) != ';'; p++) {
                if (Character.isDigit(text.charAt(p))) {
                    together += text.charAt(p) - '0';
                    lastFigure = p;
                    if (together > 24) fault = p;
                }
            }
            if (fault == Integer.MAX_VALUE) fault = text.charAt(lastFigure) == '0' ? lastFigure : -1;
            return fault;
        }

        long read() {
            String text = tape;
            tape = "";
            int fault = faultOf(text);
            if (fault >= 0) return -20 - fault;
            keep();
            Matcher m = TEXT.matcher(text);
            m.matches();
            String figures = text.replaceAll(";.*", "").replaceAll("[^0-9]", "");
            now.weights = figures.chars().map(c -> c - '0').toArray();
            if (m.group(1) != null) {
                now.failure = Integer.parseInt(m.group(1));
                now.change = Integer.parseInt(m.group(2));
            }
            now.age = 0;
            return now.weights.length;
        }

        long drift(int n) {
            if (n < 1 || n > 40) return BAD;
            for (int turn = 0; turn < n; turn++) {
                keep();
                int x = now.change();
                State then = now.twin();
                then.weights[x % now.weights.length] = (x >> 3) % 10;
                then.age = 0;
                if (then.tableMayBe()) now = then;
            }
            return now.all();
        }

        long undo() {
            if (past.isEmpty()) return NONE;
            now = past.remove(past.size() - 1);
            return past.size();
        }

        long seed(int v) {
            if (v < 0) return BAD;
            int was = now.draw;
            now.draw = v;
            return was;
        }

        static List<State> twins(List<State> states) {
            List<State> twins = new ArrayList<>();
            for (State s : states) twins.add(s.twin());
            return twins;
        }

        long image() {
            image = now.twin();
            imagePast = twins(past);
            return 1;
        }

        long restore() {
            if (image == null) return NONE;
            now = image.twin();
            past = twins(imagePast);
            return 1;
        }

        private long refused(int sheet, int lane, long i, long n) {
            if (sheets[sheet] == null) return NULL;
            if (lanes[sheet] != lane) return CAST;
            return n < 0 || i < 0 || i + n > sheets[sheet].length ? INDEX : 0;
        }

        private static boolean none(int number) {
            return number < 0 || number > 3;
        }

        long seen(int sheet, int lane, int i, int n) {
            if (none(sheet) || none(lane) || n < 1 || n > 12) return BAD;
            long r = refused(sheet, lane, i, n);
            if (r != 0) return r;
            State s = now.twin();
            int[] often = new int[8];
            int greatest = 0;
            for (int at = i; at < i + n; at++) {
                long age = sheets[sheet][at];
                if (age < 1 || age > 8) return NOT;
                often[(int) age - 1]++;
                greatest = Math.max(greatest, (int) age);
            }
            s.weights = Arrays.copyOf(often, greatest);
            return bestAge(s);
        }

        long film(int sheet, int lane, int i) {
            if (none(sheet) || none(lane)) return BAD;
            long r = refused(sheet, lane, i, now.weights.length);
            if (r != 0) return r;
            for (int k = 0; k < now.weights.length; k++) sheets[sheet][i + k] = now.weights[k];
            return now.weights.length;
        }

        long sheet(int sheet, int lane, int n) {
            if (none(sheet) || none(lane) || n > 24) return BAD;
            if (n < 0) return SIZE;
            sheets[sheet] = new long[n];
            lanes[sheet] = lane;
            return n;
        }

        long drop(int sheet) {
            if (none(sheet)) return BAD;
            if (sheets[sheet] == null) return NULL;
            int had = sheets[sheet].length;
            sheets[sheet] = null;
            return had;
        }

        long item(int sheet, int lane, int i, long v) {
            if (none(sheet) || none(lane)) return BAD;
            long r = refused(sheet, lane, i, 1);
            if (r != 0) return r;
            int away = 64 - (8 << lane);
            sheets[sheet][i] = v << away >> away;
            return 1;
        }

        long copy(int from, int i, int to, int j, int n) {
            if (none(from) || none(to)) return BAD;
            if (sheets[from] == null || sheets[to] == null) return NULL;
            if (lanes[from] != lanes[to]) return CAST;
            if (refused(from, lanes[from], i, n) != 0 || refused(to, lanes[to], j, n) != 0) return INDEX;
            long[] taken = Arrays.copyOfRange(sheets[from], i, i + n);
            for (int k = 0; k < n; k++) sheets[to][j + k] = taken[k];
            return n;
        }
    }

    /** One run: an object, its model, and the chance by which calls are chosen. */
    private static final class Run {
        final ReplaceAges x = new ReplaceAges();
        final Model m = new Model();
        final Random chance;
        final String name;

        Run(int seed) {
            chance = new Random(seed);
            name = "run " + seed;
        }

        /** A number of low .. high, at times one just outside, at times a far one. */
        int near(int low, int high) {
            int odd = chance.nextInt(40);
            if (odd == 0) return low - 1;
            if (odd == 1) return high + 1;
            if (odd == 2) return chance.nextBoolean() ? Integer.MAX_VALUE : Integer.MIN_VALUE;
            if (odd == 3) return chance.nextInt();
            return low + chance.nextInt(high - low + 1);
        }

        void due(String call, long got, long want) {
            calls++;
            if (got != want) {
                wrong++;
                System.out.println(name + ": " + call + " answered " + got + ", due is " + want);
            }
        }

        String text() {
            StringBuilder s = new StringBuilder();
            int n = 1 + chance.nextInt(chance.nextInt(6) == 0 ? 9 : 8);
            int most = chance.nextInt(3) == 0 ? 9 : 1 + 24 / n;
            for (int k = 0; k < n; k++) {
                s.append(k == 0 ? "" : ",").append(chance.nextInt(Math.min(10, most + 1)));
            }
            if (chance.nextBoolean()) {
                s.append(';').append(cost()).append(',').append(cost());
            }
            for (int change = chance.nextInt(3); change > 0; change--) {
                int at = chance.nextInt(s.length() + 1);
                if (chance.nextInt(3) > 0) {
                    s.insert(at, ' ');
                } else if (at < s.length() && chance.nextBoolean()) {
                    s.deleteCharAt(at);
                } else {
                    s.insert(at, "0123456789,,;; x".charAt(chance.nextInt(16)));
                }
            }
            return s.toString();
        }

        String cost() {
            int kind = chance.nextInt(8);
            if (kind == 0) return "0";
            if (kind == 1) return "00";
            if (kind == 2) return "0" + chance.nextInt(10);
            if (kind == 3) return "000".substring(chance.nextInt(3)) + chance.nextInt(120);
            return Integer.toString(chance.nextInt(100));
        }

        void typed() {
            String s = text();
            for (int i = 0; i < s.length(); i++) {
                int letter = s.charAt(i);
                due("type(" + letter + ")", x.type(letter), m.type(letter));
            }
            if (chance.nextInt(8) > 0) {
                due("read() of \"" + s + "\"", x.read(), m.read());
            }
        }

        void tables() {
            int a = near(1, 8), v = near(0, 9), w = near(0, 1);
            switch (chance.nextInt(10)) {
                case 0: case 1: due("weigh(" + a + ", " + v + ")", x.weigh(a, v), m.weigh(a, v)); break;
                case 2: due("ages(" + a + ")", x.ages(a), m.ages(a)); break;
                case 3: case 4: {
                    int what = near(0, 2);
                    int to = what == 2 ? a : chance.nextInt(4) == 0 ? v : near(0, 99);
                    due("tell(" + what + ", " + to + ")", x.tell(what, to), m.tell(what, to));
                    break;
                }
                case 5: { int what = near(0, 3); due("age(" + a + ", " + what + ")", x.age(a, what), m.age(a, what)); break; }
                case 6: due("mean(" + w + ")", x.mean(w), m.mean(w)); break;
                case 7: due("rate(" + a + ", " + w + ")", x.rate(a, w), m.rate(a, w)); break;
                case 8: { int t = near(0, 10); due("fails(" + t + ", " + w + ")", x.fails(t, w), m.fails(t, w)); break; }
                default: { int b = near(1, 10); due("block(" + b + ", " + w + ")", x.block(b, w), m.block(b, w)); break; }
            }
        }

        void best() {
            int h = near(0, 5), i = near(0, m.now.weights.length - 1), what = near(0, 2);
            int g = near(1, m.now.weights.length), p = near(0, 3), w = near(0, 1);
            int n = chance.nextBoolean() ? near(1, 100) : near(1, 3);
            switch (chance.nextInt(4)) {
                case 0: due("least(" + h + ", " + i + ", " + what + ")", x.least(h, i, what), m.least(h, i, what)); break;
                case 1: due("pair(" + g + ", " + p + ", " + w + ")", x.pair(g, p, w), m.pair(g, p, w)); break;
                default: due("run(" + n + ")", x.run(n), m.run(n)); break;
            }
        }

        void done() {
            switch (chance.nextInt(12)) {
                case 0: typed(); break;
                case 1: { int letter = near(32, 126); due("type(" + letter + ")", x.type(letter), m.type(letter)); break; }
                case 2: due("read()", x.read(), m.read()); break;
                case 3: case 4: {
                    int n = chance.nextBoolean() ? near(1, 40) : 1;
                    due("drift(" + n + ")", x.drift(n), m.drift(n));
                    break;
                }
                case 5: case 6: case 7: due("undo()", x.undo(), m.undo()); break;
                case 8: { int v = chance.nextInt(); due("seed(" + v + ")", x.seed(v), m.seed(v)); break; }
                case 9: due("image()", x.image(), m.image()); break;
                case 10: due("restore()", x.restore(), m.restore()); break;
                default: break;
            }
        }

        int laneOf(int sheet) {
            return sheet >= 0 && sheet < 4 && chance.nextInt(6) > 0 ? m.lanes[sheet] : near(0, 3);
        }

        void sheetCalls() {
            int s = near(0, 3), lane = laneOf(s), i = chance.nextInt(3) == 0 ? near(0, 24) : near(0, 8);
            int n = near(0, 12);
            switch (chance.nextInt(12)) {
                case 0: case 1: case 2: {
                    int l = near(0, 1) == 0 ? lane : near(0, 3), size = near(0, 24);
                    due("sheet(" + s + ", " + l + ", " + size + ")", x.sheet(s, l, size), m.sheet(s, l, size));
                    break;
                }
                case 3: if (chance.nextInt(4) == 0) due("drop(" + s + ")", x.drop(s), m.drop(s)); break;
                case 4: case 5: case 6: {
                    long v = chance.nextInt(10) == 0 ? chance.nextLong() : chance.nextInt(10) == 0 ? chance.nextInt(700) - 300 : 1 + chance.nextInt(8);
                    due("item(" + s + ", " + lane + ", " + i + ", " + v + ")", x.item(s, lane, i, v), m.item(s, lane, i, v));
                    break;
                }
                case 7: case 8: due("seen(" + s + ", " + lane + ", " + i + ", " + n + ")", x.seen(s, lane, i, n), m.seen(s, lane, i, n)); break;
                case 9: due("film(" + s + ", " + lane + ", " + i + ")", x.film(s, lane, i), m.film(s, lane, i)); break;
                default: {
                    int to = chance.nextInt(3) == 0 ? s : near(0, 3), j = near(0, 12);
                    due("copy(" + s + ", " + i + ", " + to + ", " + j + ", " + n + ")", x.copy(s, i, to, j, n), m.copy(s, i, to, j, n));
                    break;
                }
            }
        }

        void countOne() {
            int what = near(0, 13);
            due("count(" + what + ")", x.count(what), m.count(what));
        }

        void all(int most) {
            int kind = chance.nextInt(3);
            int end = calls + most;
            for (int step = 0; step < most && calls < end; step++) {
                switch (chance.nextInt(kind == 0 ? 6 : 5)) {
                    case 0: tables(); break;
                    case 1: best(); break;
                    case 2: done(); break;
                    case 3: countOne(); break;
                    case 4: if (kind == 1) sheetCalls(); else tables(); break;
                    default: sheetCalls(); break;
                }
            }
        }
    }

    /** Each answer that reckons, of one table. */
    private static void whole(int seed) {
        Run r = new Run(seed);
        r.typed();
        int n = r.m.now.weights.length;
        for (int what = 0; what < 14; what++) r.due("count(" + what + ")", r.x.count(what), r.m.count(what));
        for (int w = 0; w < 2; w++) {
            for (int t = 0; t <= 10; t++) {
                r.due("fails(" + t + ", " + w + ")", r.x.fails(t, w), r.m.fails(t, w));
                r.due("block(" + t + ", " + w + ")", r.x.block(t, w), r.m.block(t, w));
            }
            for (int g = 1; g <= n; g++) {
                r.due("rate(" + g + ", " + w + ")", r.x.rate(g, w), r.m.rate(g, w));
                for (int h = 0; h <= 3; h++) r.due("pair(" + g + ", " + h + ", " + w + ")", r.x.pair(g, h, w), r.m.pair(g, h, w));
            }
        }
        for (int i = 0; i < n; i++) {
            for (int h = 0; h <= 5; h++) {
                for (int w = 0; w < 3; w++) r.due("least(" + h + ", " + i + ", " + w + ")", r.x.least(h, i, w), r.m.least(h, i, w));
            }
        }
    }

    /** SEEN of many rows by one object, one behind the other. */
    private static void rows(int seed) {
        Run r = new Run(seed);
        int lane = r.chance.nextInt(4);
        r.due("sheet(2, " + lane + ", 24)", r.x.sheet(2, lane, 24), r.m.sheet(2, lane, 24));
        for (int round = 0; round < 10; round++) {
            int least = 1 + r.chance.nextInt(7), most = least + r.chance.nextInt(9 - least);
            int failure = 1 + r.chance.nextInt(99), change = r.chance.nextInt(failure);
            r.due("tell(0, " + failure + ")", r.x.tell(0, failure), r.m.tell(0, failure));
            r.due("tell(1, " + change + ")", r.x.tell(1, change), r.m.tell(1, change));
            for (int i = 0; i < 24; i++) {
                long v = least + r.chance.nextInt(most - least + 1);
                r.due("item(2, " + lane + ", " + i + ", " + v + ")", r.x.item(2, lane, i, v), r.m.item(2, lane, i, v));
            }
            for (int time = 0; time < 12; time++) {
                int n = 1 + r.chance.nextInt(12), i = r.chance.nextInt(25 - n);
                r.due("seen(2, " + lane + ", " + i + ", " + n + ")", r.x.seen(2, lane, i, n), r.m.seen(2, lane, i, n));
            }
        }
    }

    public static void main(String[] args) {
        int runs = args.length > 0 ? Integer.parseInt(args[0]) : 300;
        int first = args.length > 1 ? Integer.parseInt(args[1]) : 1;
        for (int seed = first; seed < first + runs && wrong < 50; seed++) {
            new Run(seed).all(500);
            whole(seed);
            rows(seed);
            Run texts = new Run(-seed);
            for (int t = 0; t < 40; t++) texts.typed();
        }
        System.out.println(calls + " calls; " + (wrong == 0 ? "all answers are as due" : wrong + " answers are not as due"));
        if (wrong != 0) System.exit(1);
    }
}
