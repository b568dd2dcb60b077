import java.math.BigInteger;

/**
 * The document read sentence by sentence: each one that names a boundary case (too small, too
 * large, empty, full, a wrap-around, a refused call) has a test here that bears its words.
 */
public final class BoundaryTests {
    private static final int MIN = Integer.MIN_VALUE, MAX = Integer.MAX_VALUE;
    private static final int BAD = -1, NOT = -2, FULL = -3, NONE = -4, NULL = -11, CAST = -12, INDEX = -13, SIZE = -14;
    private static final BigInteger DRAWS = BigInteger.ONE.shiftLeft(31);

    private static int tests = 0, wrong = 0;
    private static String sentence = "";

    private interface Check {
        void look();
    }

    private interface Call {
        long on(ReplaceAges x);
    }

    private static void test(String words, Check check) {
        sentence = words;
        tests++;
        try {
            check.look();
        } catch (RuntimeException e) {
            fault("it threw " + e);
        }
    }

    private static void fault(String what) {
        wrong++;
        System.out.println("[" + sentence + "] " + what);
    }

    private static void due(String call, long got, long want) {
        if (got != want) fault(call + " answered " + got + ", due is " + want);
    }

    private static void same(String what, String got, String want) {
        if (!got.equals(want)) fault(what + " is " + got + ", due is " + want);
    }

    /** Each of the answers is the one due. */
    private static void each(long want, long... got) {
        for (int i = 0; i < got.length; i++) due("call " + (i + 1), got[i], want);
    }

    private static void fraction(String call, long above, long below, long wantAbove, long wantBelow) {
        same(call, above + " by " + below, wantAbove + " by " + wantBelow);
    }

    private static void type(ReplaceAges x, String letters) {
        for (int i = 0; i < letters.length(); i++) x.type(letters.charAt(i));
    }

    private static int text(ReplaceAges x, String letters) {
        type(x, letters);
        return x.read();
    }

    private static ReplaceAges of(String letters) {
        ReplaceAges x = new ReplaceAges();
        if (text(x, letters) < 1) fault("no TEXT: " + letters);
        return x;
    }

    private static String weights(ReplaceAges x) {
        StringBuilder s = new StringBuilder();
        int n = x.count(0);
        for (int k = 1; k <= n; k++) s.append(k > 1 ? "," : "").append(x.age(k, 2));
        return s.toString();
    }

    private static int draw(ReplaceAges x) {
        int draw = x.seed(0);
        x.seed(draw);
        return draw;
    }

    /** A DRAW that, changed, is the one told. */
    private static int aheadOf(long draw) {
        return BigInteger.valueOf(draw - 12345).multiply(BigInteger.valueOf(1103515245).modInverse(DRAWS)).mod(DRAWS).intValue();
    }

    /** The next x is the one told. */
    private static void nextX(ReplaceAges x, int told) {
        x.seed(aheadOf(told * 65536L));
    }

    /** Costs by which SEEN of one item tells that item: to change a part ahead of its failure is dear. */
    private static void dearChanges(ReplaceAges x) {
        x.tell(0, 1);
        x.tell(1, 99);
    }

    private static void put(ReplaceAges x, int sheet, int lane, long... items) {
        due("sheet", x.sheet(sheet, lane, items.length), items.length);
        for (int i = 0; i < items.length; i++) due("item " + i, x.item(sheet, lane, i, items[i]), 1);
    }

    /** The items of a SHEET, x for what is no AGE; costs are as dearChanges told. */
    private static String row(ReplaceAges x, int sheet, int lane) {
        StringBuilder s = new StringBuilder();
        for (int i = 0; i < 24; i++) {
            int seen = x.seen(sheet, lane, i, 1);
            if (seen == INDEX || seen == NULL) break;
            s.append(seen == NOT ? "x" : Integer.toString(seen));
        }
        return s.toString();
    }

    // ---- what a refused call leaves

    private static String plan(ReplaceAges x) {
        StringBuilder s = new StringBuilder(weights(x));
        for (int what = 2; what <= 9; what++) s.append(' ').append(x.count(what));
        return s.append(' ').append(x.count(13)).append(" draw ").append(draw(x)).toString();
    }

    private static String planAndPast(ReplaceAges x) {
        StringBuilder s = new StringBuilder(plan(x));
        int more = x.undo();
        for (int i = 0; i < 8 && more >= 0; i++) {
            s.append(" / ").append(more).append(' ').append(plan(x));
            more = x.undo();
        }
        return s.append(" / ").append(more).toString();
    }

    /** All that can be asked of an object, which is used up by it. */
    private static String whole(ReplaceAges x) {
        StringBuilder s = new StringBuilder(planAndPast(x));
        s.append("\n image ").append(x.restore()).append(' ').append(planAndPast(x));
        dearChanges(x);
        for (int sheet = 0; sheet < 4; sheet++) {
            s.append("\n sheet ");
            int lane = 0;
            for (int l = 0; l < 4; l++) {
                if (x.item(sheet, l, -1, 0) == INDEX) lane = l;
            }
            s.append(lane).append(' ').append(row(x, sheet, lane)).append(' ').append(x.drop(sheet));
        }
        return s.append("\n tape ").append(x.type(' ')).append(' ').append(x.read()).append(' ').append(plan(x)).toString();
    }

    /** A THE TABLE that is full, an IMAGE, a full THE TAPE, SHEETS of LANES 0, 2 and 3 (of no item). */
    private static ReplaceAges busy() {
        ReplaceAges x = of("3,4,5;60,50");
        x.run(7);
        x.image();
        text(x, "9,0,9,6;70,40");
        x.tell(2, 5);
        x.seed(4711);
        x.run(2);
        put(x, 0, 0, 1, 2, 3, 4, 5);
        put(x, 1, 2, 6, 7);
        put(x, 3, 3);
        type(x, "2,3;7,5                                                     ");
        return x;
    }

    private static void refused(String call, Call made, int want) {
        ReplaceAges x = busy();
        due(call, made.on(x), want);
        same("what stays behind " + call, whole(x), whole(busy()));
    }

    private static void refusedCallsChangeNothing() {
        String words = "Terms: What is refused changes nothing: ";
        test(words + "weigh", () -> {
            refused("weigh(0, 1)", x -> x.weigh(0, 1), BAD);
            refused("weigh(5, 1)", x -> x.weigh(5, 1), BAD);
            refused("weigh(1, 10)", x -> x.weigh(1, 10), BAD);
            refused("weigh(1, 9)", x -> x.weigh(1, 9), NOT);
            refused("weigh(2, 1)", x -> x.weigh(2, 1), FULL);
            refused("weigh(4, 0)", x -> x.weigh(4, 0), NONE);
        });
        test(words + "ages", () -> {
            refused("ages(0)", x -> x.ages(0), BAD);
            refused("ages(9)", x -> x.ages(9), BAD);
            refused("ages(4)", x -> x.ages(4), NOT);
            refused("ages(5)", x -> x.ages(5), FULL);
            refused("ages(2)", x -> x.ages(2), NONE);
        });
        test(words + "tell", () -> {
            refused("tell(3, 1)", x -> x.tell(3, 1), BAD);
            refused("tell(0, 0)", x -> x.tell(0, 0), BAD);
            refused("tell(1, 100)", x -> x.tell(1, 100), BAD);
            refused("tell(2, 9)", x -> x.tell(2, 9), BAD);
            refused("tell(0, 70)", x -> x.tell(0, 70), NOT);
            refused("tell(1, 40)", x -> x.tell(1, 40), NOT);
            refused("tell(2, 5)", x -> x.tell(2, 5), NOT);
        });
        test(words + "run, drift, seed, type", () -> {
            refused("run(0)", x -> x.run(0), BAD);
            refused("run(101)", x -> x.run(101), BAD);
            refused("drift(0)", x -> x.drift(0), BAD);
            refused("drift(41)", x -> x.drift(41), BAD);
            refused("seed(-1)", x -> x.seed(-1), BAD);
            refused("type(31)", x -> x.type(31), BAD);
            refused("type('9')", x -> x.type('9'), FULL);
        });
        test(words + "undo, restore", () -> {
            ReplaceAges x = new ReplaceAges();
            due("undo()", x.undo(), NONE);
            due("restore()", x.restore(), NONE);
            same("a new object behind them", whole(x), whole(new ReplaceAges()));
            x = busy();
            for (int i = 0; i < 5; i++) x.undo();
            ReplaceAges twin = busy();
            for (int i = 0; i < 5; i++) twin.undo();
            due("undo() of none", x.undo(), NONE);
            same("what stays behind it", whole(x), whole(twin));
        });
        test(words + "the questions, as all of them", () -> {
            Call[] asked = {x -> x.age(0, 0), x -> x.count(14), x -> x.mean(2), x -> x.rate(0, 0), x -> x.fails(11, 0),
                x -> x.block(0, 0), x -> x.least(6, 0, 0), x -> x.pair(0, 1, 0)};
            for (int i = 0; i < asked.length; i++) refused("question " + i, asked[i], BAD);
            ReplaceAges x = busy();
            x.age(1, 0);
            x.mean(0);
            x.rate(4, 1);
            x.fails(10, 0);
            x.block(10, 1);
            x.least(5, 3, 0);
            x.least(5, 3, 2);
            x.pair(4, 3, 1);
            for (int what = 0; what < 14; what++) x.count(what);
            same("what stays behind questions", whole(x), whole(busy()));
        });
        test(words + "seen (and one that is answered)", () -> {
            refused("seen(4, 0, 0, 1)", x -> x.seen(4, 0, 0, 1), BAD);
            refused("seen(2, 0, 0, 1)", x -> x.seen(2, 0, 0, 1), NULL);
            refused("seen(0, 1, 0, 1)", x -> x.seen(0, 1, 0, 1), CAST);
            refused("seen(0, 0, 5, 1)", x -> x.seen(0, 0, 5, 1), INDEX);
            refused("seen(0, 0, 0, 5)", x -> x.seen(0, 0, 0, 5), 4);
            refused("seen NOT", x -> x.item(0, 0, 0, 0) + x.seen(0, 0, 0, 5) + x.item(0, 0, 0, 1), 1 + NOT + 1);
        });
        test(words + "film, item, copy", () -> {
            refused("film(4, 0, 0)", x -> x.film(4, 0, 0), BAD);
            refused("film(2, 0, 0)", x -> x.film(2, 0, 0), NULL);
            refused("film(0, 2, 0)", x -> x.film(0, 2, 0), CAST);
            refused("film(0, 0, 2): one item too far", x -> x.film(0, 0, 2), INDEX);
            refused("film(1, 2, 0): two items too far", x -> x.film(1, 2, 0), INDEX);
            refused("item(0, 4, 0, 8)", x -> x.item(0, 4, 0, 8), BAD);
            refused("item(2, 0, 0, 8)", x -> x.item(2, 0, 0, 8), NULL);
            refused("item(1, 0, 0, 8)", x -> x.item(1, 0, 0, 8), CAST);
            refused("item(1, 2, 2, 8)", x -> x.item(1, 2, 2, 8), INDEX);
            refused("copy(0, 0, 4, 0, 1)", x -> x.copy(0, 0, 4, 0, 1), BAD);
            refused("copy(0, 0, 2, 0, 1)", x -> x.copy(0, 0, 2, 0, 1), NULL);
            refused("copy(0, 0, 1, 0, 1)", x -> x.copy(0, 0, 1, 0, 1), CAST);
            refused("copy(0, 0, 0, 2, 4): one item too far", x -> x.copy(0, 0, 0, 2, 4), INDEX);
            refused("copy(0, 0, 0, 1, -1)", x -> x.copy(0, 0, 0, 1, -1), INDEX);
        });
        test(words + "sheet, drop", () -> {
            refused("sheet(4, 0, 1)", x -> x.sheet(4, 0, 1), BAD);
            refused("sheet(0, 4, 1)", x -> x.sheet(0, 4, 1), BAD);
            refused("sheet(0, 0, 25)", x -> x.sheet(0, 0, 25), BAD);
            refused("sheet(0, 1, -1)", x -> x.sheet(0, 1, -1), SIZE);
            refused("drop(4)", x -> x.drop(4), BAD);
            refused("drop(2)", x -> x.drop(2), NULL);
        });
        test("15 read: A FAULT (all else stays); THE TAPE is empty then (by a FAULT, too)", () -> {
            String[] faulty = {"", " ", "x", "9,9,7", "1,2;0,5", "1,2;33,", "1,2;33,44x", "8,8,0;33,44", "1,1,1,1,1,1,1,1,1"};
            for (String letters : faulty) {
                ReplaceAges x = busy(), twin = busy();
                x.read();
                twin.read();
                due("\"" + letters + "\" is a FAULT", text(x, letters) <= -20 ? 1 : 0, 1);
                same("what stays behind \"" + letters + "\"", whole(x), whole(twin));
            }
        });
    }

    // ---- Terms: answers and fractions

    private static void answersInTheirOrder() {
        String words = "Terms: of several the first that a call names: ";
        test(words + "weigh: BAD, NOT, FULL", () -> {
            ReplaceAges x = of("9,9,6");
            each(BAD, x.weigh(4, 10), x.weigh(4, 0), x.weigh(0, 9), x.weigh(3, 10), x.weigh(3, -1));
            each(NOT, x.weigh(1, 9), x.weigh(2, 9), x.weigh(3, 6));
            each(FULL, x.weigh(3, 7), x.weigh(3, 9));
        });
        test(words + "ages: BAD, NOT, FULL", () -> {
            ReplaceAges x = of("9,9,6");
            each(BAD, x.ages(9), x.ages(0));
            due("ages(3)", x.ages(3), NOT);
            each(FULL, x.ages(4), x.ages(8));
        });
        test(words + "seen: BAD, NULL, CAST, INDEX, NOT", () -> {
            ReplaceAges x = new ReplaceAges();
            each(BAD, x.seen(4, 0, 0, 0), x.seen(0, 4, -1, 1), x.seen(0, 0, -1, 0), x.seen(0, 0, -1, 13), x.seen(0, 0, 0, MIN));
            each(NULL, x.seen(0, 0, -1, 1), x.seen(0, 3, MAX, 12));
            put(x, 0, 1, 0, 9);
            each(BAD, x.seen(0, 0, 0, 13), x.seen(0, 0, 0, 0), x.seen(0, 1, 5, 0));
            each(CAST, x.seen(0, 0, -1, 1), x.seen(0, 2, 2, 1), x.seen(0, 3, 0, 2));
            each(INDEX, x.seen(0, 1, 0, 3), x.seen(0, 1, 1, 2), x.seen(0, 1, -1, 2));
            each(NOT, x.seen(0, 1, 0, 2), x.seen(0, 1, 1, 1));
        });
        test(words + "film, item: BAD, NULL, CAST, INDEX", () -> {
            ReplaceAges x = new ReplaceAges();
            each(BAD, x.film(0, 4, -1), x.film(4, 0, 0), x.item(0, 4, -1, 1), x.item(-1, 0, 0, 1));
            each(NULL, x.film(0, 0, -1), x.film(0, 3, MAX), x.item(0, 0, -1, 1), x.item(0, 3, MAX, 1));
            x.sheet(0, 2, 2);
            each(BAD, x.film(0, 4, 0), x.film(0, -1, 0), x.item(0, 4, 0, 1), x.item(0, -1, 0, 1));
            each(CAST, x.film(0, 0, -1), x.film(0, 1, 0), x.film(0, 3, MAX), x.item(0, 0, -1, 1), x.item(0, 1, 0, 1), x.item(0, 3, 2, 1));
            each(INDEX, x.film(0, 2, -1), x.film(0, 2, 0), x.item(0, 2, -1, 1), x.item(0, 2, 2, 1));
        });
        test(words + "copy: BAD, NULL, CAST, INDEX", () -> {
            ReplaceAges x = new ReplaceAges();
            each(BAD, x.copy(0, -1, 4, 0, 1), x.copy(-1, 0, 0, -1, -1), x.copy(4, 0, 4, 0, 0));
            x.sheet(0, 0, 2);
            x.sheet(1, 1, 2);
            each(NULL, x.copy(0, -1, 2, -1, -1), x.copy(3, 0, 1, 0, 9), x.copy(2, 0, 2, 0, 0));
            each(CAST, x.copy(0, -1, 1, 0, 1), x.copy(1, 0, 0, 0, -1), x.copy(0, 0, 1, 3, 0), x.copy(0, 0, 1, 0, 0));
            each(INDEX, x.copy(0, -1, 0, 0, 1), x.copy(1, 0, 1, 0, -1), x.copy(0, 0, 0, 3, 0));
        });
        test(words + "sheet: BAD, SIZE; drop: BAD, NULL; type: BAD, FULL", () -> {
            ReplaceAges x = new ReplaceAges();
            each(BAD, x.sheet(4, 0, -1), x.sheet(0, 4, -1), x.sheet(-1, 0, MIN), x.drop(-1), x.drop(4));
            each(SIZE, x.sheet(0, 0, -1), x.sheet(3, 3, MIN));
            each(NULL, x.drop(0), x.drop(3));
            for (int i = 0; i < 60; i++) x.type('1');
            each(BAD, x.type(31), x.type(127));
            each(FULL, x.type(32), x.type(126));
        });
        test("Terms: INDEX also where no item is taken, if i, j is below 0, or above how many there are", () -> {
            ReplaceAges x = new ReplaceAges();
            x.sheet(0, 0, 5);
            x.sheet(1, 0, 3);
            x.sheet(2, 0, 0);
            each(INDEX, x.copy(0, -1, 1, 0, 0), x.copy(0, 0, 1, -1, 0), x.copy(0, MIN, 1, 0, 0), x.copy(0, 0, 1, MIN, 0));
            each(INDEX, x.copy(0, 6, 1, 0, 0), x.copy(0, 0, 1, 4, 0), x.copy(0, MAX, 1, 0, 0), x.copy(0, 0, 1, MAX, 0));
            each(0, x.copy(0, 5, 1, 3, 0), x.copy(0, 0, 1, 0, 0), x.copy(1, 3, 0, 5, 0), x.copy(0, 5, 0, 5, 0));
            each(0, x.copy(2, 0, 2, 0, 0), x.copy(2, 0, 0, 5, 0), x.copy(0, 5, 2, 0, 0));
            each(INDEX, x.copy(2, 1, 0, 0, 0), x.copy(0, 0, 2, 1, 0), x.copy(2, 0, 0, 0, 1), x.copy(0, 0, 2, 0, 1));
        });
    }

    private static void fractions() {
        test("Terms: Fractions are in lowest terms: 0 above, 1 below", () -> {
            ReplaceAges x = of("2,2");
            fraction("HAZARD 1", x.age(1, 0), x.age(1, 1), 1, 2);
            fraction("MEAN", x.mean(0), x.mean(1), 3, 2);
            fraction("RATE 1", x.rate(1, 0), x.rate(1, 1), 7, 1);
            fraction("RATE 2", x.rate(2, 0), x.rate(2, 1), 20, 3);
            fraction("FAILS up to 1", x.fails(1, 0), x.fails(1, 1), 1, 2);
            fraction("FAILS up to 2", x.fails(2, 0), x.fails(2, 1), 5, 4);
            fraction("BLOCK 2", x.block(2, 0), x.block(2, 1), 33, 4);
            fraction("LEAST of 1 from 1", x.least(1, 1, 0), x.least(1, 1, 1), 9, 1);
            fraction("PAIR by 1 of 1", x.pair(1, 1, 0), x.pair(1, 1, 1), 12, 1);
            fraction("PAIR by 2 of 1", x.pair(2, 1, 0), x.pair(2, 1, 1), 10, 1);
        });
        test("Terms: 0 is 0 by 1", () -> {
            ReplaceAges x = of("0,4;9,0");
            fraction("HAZARD", x.age(1, 0), x.age(1, 1), 0, 1);
            fraction("RATE", x.rate(1, 0), x.rate(1, 1), 0, 1);
            fraction("FAILS up to 0", x.fails(0, 0), x.fails(0, 1), 0, 1);
            fraction("FAILS up to 1", x.fails(1, 0), x.fails(1, 1), 0, 1);
            fraction("BLOCK", x.block(1, 0), x.block(1, 1), 0, 1);
            fraction("LEAST of 0", x.least(0, 1, 0), x.least(0, 1, 1), 0, 1);
            fraction("LEAST of 1", x.least(1, 0, 0), x.least(1, 0, 1), 0, 1);
            fraction("LEAST of 5 for nothing", x.least(5, 1, 0), x.least(5, 1, 1), 0, 1);
            fraction("PAIR of 0", x.pair(2, 0, 0), x.pair(2, 0, 1), 0, 1);
            fraction("PAIR of 1", x.pair(1, 1, 0), x.pair(1, 1, 1), 0, 1);
        });
        test("The public face: BAD = -1, NOT = -2, FULL = -3, NONE = -4, NULL = -11, CAST = -12, INDEX = -13, SIZE = -14", () -> {
            due("BAD", ReplaceAges.BAD, BAD);
            due("NOT", ReplaceAges.NOT, NOT);
            due("FULL", ReplaceAges.FULL, FULL);
            due("NONE", ReplaceAges.NONE, NONE);
            due("NULL", ReplaceAges.NULL, NULL);
            due("CAST", ReplaceAges.CAST, CAST);
            due("INDEX", ReplaceAges.INDEX, INDEX);
            due("SIZE", ReplaceAges.SIZE, SIZE);
        });
    }

    // ---- 1 the table

    private static void theTable() {
        test("1: at first n is 3, each WEIGHT 1; FAILURE 10, CHANGE 4, THE RULE 8, AGE 0, THE DRAW 1, SHEETS nothing", () -> {
            ReplaceAges x = new ReplaceAges();
            same("a new object", plan(x), "1,1,1 10 4 8 0 0 0 0 0 0 draw 1");
            due("undo()", x.undo(), NONE);
            due("restore()", x.restore(), NONE);
            each(NULL, x.drop(0), x.drop(1), x.drop(2), x.drop(3));
            due("read() of an empty tape", x.read(), -20);
        });
        test("1: n AGES 1 .. n: n 1 .. 8", () -> {
            ReplaceAges x = new ReplaceAges();
            each(BAD, x.ages(0), x.ages(-1), x.ages(MIN), x.ages(9), x.ages(MAX));
            due("ages(8)", x.ages(8), 3);
            same("eight AGES", weights(x), "1,1,1,1,1,1,1,1");
            due("ages(1)", x.ages(1), 8);
            same("one AGE", weights(x), "1");
        });
        test("1: each with a WEIGHT 0 .. 9", () -> {
            ReplaceAges x = new ReplaceAges();
            each(BAD, x.weigh(1, -1), x.weigh(1, 10), x.weigh(1, MIN), x.weigh(1, MAX));
            due("weigh(1, 0)", x.weigh(1, 0), 1);
            due("weigh(1, 9)", x.weigh(1, 9), 0);
            due("weigh(3, 9)", x.weigh(3, 9), 1);
            same("WEIGHTS", weights(x), "9,1,9");
        });
        test("1: ALL 24 at most", () -> {
            ReplaceAges x = of("9,9,5");
            due("weigh to 25", x.weigh(3, 7), FULL);
            due("weigh to 24", x.weigh(3, 6), 5);
            due("ALL", x.count(1), 24);
            due("from 24 down", x.weigh(1, 8), 9);
            due("ages to 25", x.ages(5), FULL);
            due("ages to 24", x.ages(4), 3);
            due("ALL", x.count(1), 24);
            due("a TEXT of 25", text(x, "9,9,7"), -24);
            due("a TEXT of 24", text(x, "9,9,6"), 3);
        });
        test("1: LEFT of j (0 .. n); HAZARD of n is 1", () -> {
            ReplaceAges x = of("0,2,6,4");
            due("LEFT of 1 is ALL by a WEIGHT of 0", x.age(1, 3), 12);
            due("LEFT of 3", x.age(3, 3), 4);
            due("LEFT of n", x.age(4, 3), 0);
            fraction("HAZARD of n", x.age(4, 0), x.age(4, 1), 1, 1);
            x = of("9,9,6");
            fraction("HAZARD of AGE 1 by ALL", x.age(1, 0), x.age(1, 1), 3, 8);
            fraction("HAZARD of the only AGE", of("7").age(1, 0), of("7").age(1, 1), 1, 1);
        });
        test("1: MEAN: n 1, and n 8 at its most", () -> {
            fraction("MEAN of 9", of("9").mean(0), of("9").mean(1), 1, 1);
            ReplaceAges x = of("0,0,0,0,0,0,0,9");
            fraction("MEAN of AGE 8 alone", x.mean(0), x.mean(1), 8, 1);
        });
        test("1: FAILURE 1 .. 99 and CHANGE 0 .. 99, THE RULE 1 .. 8", () -> {
            ReplaceAges x = new ReplaceAges();
            each(BAD, x.tell(0, 0), x.tell(0, -1), x.tell(0, 100), x.tell(0, MIN), x.tell(0, MAX));
            each(BAD, x.tell(1, -1), x.tell(1, 100), x.tell(1, MIN), x.tell(1, MAX));
            each(BAD, x.tell(2, 0), x.tell(2, -1), x.tell(2, 9), x.tell(2, MIN), x.tell(2, MAX));
            due("FAILURE 1", x.tell(0, 1), 10);
            due("FAILURE 99", x.tell(0, 99), 1);
            due("CHANGE 0", x.tell(1, 0), 4);
            due("CHANGE 99", x.tell(1, 99), 0);
            due("THE RULE 1", x.tell(2, 1), 8);
            due("THE RULE 8", x.tell(2, 8), 1);
            same("told", x.count(2) + " " + x.count(3) + " " + x.count(4), "99 99 8");
        });
        test("1: RISING: no HAZARD is less than that of the AGE ahead (like ones are not less)", () -> {
            due("less at AGE 2 alone", of("9,1,1").count(10) & 1, 0);
            due("less at the last but one alone", of("0,1,0,1").count(10) & 1, 0);
            due("like ones", of("8,4,2,1,1").count(10) & 1, 1);
            due("of 0", of("0,0,1").count(10) & 1, 1);
            due("more each", of("1,1,1").count(10) & 1, 1);
            due("n 1", of("5").count(10) & 1, 1);
            due("n 2", of("9,1").count(10) & 1, 1);
        });
        test("6 count: 10 RISING (1) and FALLING (2) together", () -> {
            due("both", of("8,4,2,1,1").count(10), 3);
            due("FALLING alone", of("9,1,1").count(10), 2);
            due("RISING alone", of("1,1,1").count(10), 1);
            due("neither", of("1,0,1,1").count(10), 0);
        });
        test("1: FALLING: none but that of n is more (like ones are not more)", () -> {
            due("n alone is more", of("8,2,1,6").count(10) & 2, 2);
            due("like ones", of("8,4,2,1,1").count(10) & 2, 2);
            due("more at AGE 2 of 3", of("1,1,1").count(10) & 2, 0);
            due("more at the last but one alone", of("6,3,2,1").count(10) & 2, 0);
            due("of 0", of("0,0,1").count(10) & 2, 2);
            due("n 1", of("5").count(10) & 2, 2);
            due("n 2: that of n alone", of("0,1").count(10) & 2, 2);
        });
    }

    private static void ratesAndBlocks() {
        test("1: RATE of AGE a at 1 and at n", () -> {
            ReplaceAges x = of("1,2,3;12,6");
            fraction("RATE 1: 12 and 30 by 6", x.rate(1, 0), x.rate(1, 1), 7, 1);
            fraction("RATE n: no CHANGE in it, 72 by 14", x.rate(3, 0), x.rate(3, 1), 36, 7);
            fraction("n 1 is never changed", of("4;99,1").rate(1, 0), of("4;99,1").rate(1, 1), 99, 1);
        });
        test("1: THE BEST AGE: of like ones the least", () -> {
            due("6 and 6", of("1,1;9,3").count(11), 1);
            due("13/2 and 6", of("1,1;9,4").count(11), 2);
            due("11/2 and 6", of("1,1;9,2").count(11), 1);
            due("0, 0, 3", of("0,0,1;9,0").count(11), 1);
            due("n 1", of("1;1,99").count(11), 1);
            due("AGE n of 8", of("0,0,0,0,0,0,0,1;1,99").count(11), 8);
            due("AGE 7 of 8", of("0,0,0,0,0,0,0,1").count(11), 7);
            due("by the greatest numbers", of("0,0,0,0,0,6,9,9;99,99").count(11), 8);
        });
        test("1: FAILS up to t (0 .. 10)", () -> {
            ReplaceAges x = of("0,0,0,0,0,0,0,9");
            fraction("up to 7", x.fails(7, 0), x.fails(7, 1), 0, 1);
            fraction("up to 8", x.fails(8, 0), x.fails(8, 1), 1, 1);
            fraction("up to 10", x.fails(10, 0), x.fails(10, 1), 1, 1);
            fraction("up to 10 by n 1", of("9").fails(10, 0), of("9").fails(10, 1), 10, 1);
            fraction("up to 0", of("9").fails(0, 0), of("9").fails(0, 1), 0, 1);
            x = of("9,4,2,2,2,1,1,3");
            fraction("by the greatest ALL", x.fails(10, 0), x.fails(10, 1), 792762910739L, 260919263232L);
            x = of("5,0,0,0,0,0,0,9");
            fraction("5 of ALL 14", x.fails(1, 0), x.fails(1, 1), 5, 14);
        });
        test("1: RATE of BLOCK b (1 .. 10)", () -> {
            ReplaceAges x = of("0,1;6,4");
            fraction("BLOCK 1: CHANGE alone", x.block(1, 0), x.block(1, 1), 4, 1);
            fraction("BLOCK 10: 34 by 10", x.block(10, 0), x.block(10, 1), 17, 5);
            x = of("9,4,2,2,2,1,1,3;99,99");
            due("by the greatest numbers", x.block(10, 0), 11590503913681L);
        });
        test("1: THE BEST BLOCK likewise: of like ones the least", () -> {
            due("3 at each odd b", of("0,1;6,3").count(12), 1);
            due("28 by 9", of("0,1;6,4").count(12), 9);
            due("2 at b 1", of("0,1;6,2").count(12), 1);
            due("all alike", of("1;7,0").count(12), 1);
            due("BLOCK 2", of("0,0,1,1,2,3;50,5").count(12), 2);
            due("BLOCK 10", of("1;1,1").count(12), 10);
            due("by the greatest numbers", of("9,9,6;99,99").count(12), 10);
        });
    }

    private static void tableCalls() {
        test("2 weigh: BAD: there is no such AGE", () -> {
            ReplaceAges x = new ReplaceAges();
            each(BAD, x.weigh(0, 2), x.weigh(-1, 2), x.weigh(4, 2), x.weigh(8, 2), x.weigh(9, 2), x.weigh(MIN, 2), x.weigh(MAX, 2));
            due("AGE 1", x.weigh(1, 2), 1);
            due("AGE n", x.weigh(3, 3), 1);
            same("WEIGHTS", weights(x), "2,1,3");
        });
        test("2 weigh: NOT: it is so", () -> {
            ReplaceAges x = new ReplaceAges();
            each(NOT, x.weigh(1, 1), x.weigh(3, 1));
            x.weigh(1, 0);
            due("0", x.weigh(1, 0), NOT);
            due("known", x.count(13), 1);
        });
        test("2 weigh: FULL: ALL were above 24", () -> {
            ReplaceAges x = of("9,9,1");
            due("25", x.weigh(3, 7), FULL);
            due("24", x.weigh(3, 6), 1);
            due("by another one, 25", x.weigh(2, 8), 9);
            due("back to 24", x.weigh(2, 9), 8);
        });
        test("2 weigh: NONE: that of n were 0", () -> {
            ReplaceAges x = new ReplaceAges();
            due("n", x.weigh(3, 0), NONE);
            due("n less 1", x.weigh(2, 0), 1);
            due("the only one", of("5").weigh(1, 0), NONE);
        });
        test("3 ages: WEIGHTS of new AGES being 1 (those of AGES that were, too)", () -> {
            ReplaceAges x = of("2,3,4,5");
            due("fewer", x.ages(2), 4);
            due("more", x.ages(5), 2);
            same("WEIGHTS", weights(x), "2,3,1,1,1");
        });
        test("3 ages: NOT, FULL: ALL were above 24, NONE: the WEIGHT of v were 0", () -> {
            ReplaceAges x = of("9,0,9,3");
            due("as it is", x.ages(4), NOT);
            due("the WEIGHT of 2 is 0", x.ages(2), NONE);
            due("25", x.ages(8), FULL);
            due("24", x.ages(7), 4);
            due("none more", x.ages(8), FULL);
            due("fewer by 24", x.ages(3), 7);
            due("to 1", x.ages(1), 3);
        });
        test("4 tell: BAD: no such what; NOT: it is so", () -> {
            ReplaceAges x = new ReplaceAges();
            each(BAD, x.tell(-1, 5), x.tell(3, 5), x.tell(MIN, 5), x.tell(MAX, 5));
            each(NOT, x.tell(0, 10), x.tell(1, 4), x.tell(2, 8));
            due("known", x.count(13), 0);
        });
        test("5 age: Of AGE k (1 .. n): BAD", () -> {
            ReplaceAges x = new ReplaceAges();
            each(BAD, x.age(0, 2), x.age(4, 2), x.age(-1, 0), x.age(8, 3), x.age(MIN, 1), x.age(MAX, 1));
            each(BAD, x.age(1, -1), x.age(1, 4), x.age(3, MIN), x.age(3, MAX));
            x.ages(1);
            each(BAD, x.age(2, 2), x.age(0, 2));
            due("the only one", x.age(1, 2), 1);
        });
        test("6 count: BAD: what below 0 or above 13", () -> {
            ReplaceAges x = new ReplaceAges();
            each(BAD, x.count(-1), x.count(14), x.count(MIN), x.count(MAX));
            due("0", x.count(0), 3);
            due("13", x.count(13), 0);
        });
        test("7 mean, 8 rate: BAD", () -> {
            ReplaceAges x = new ReplaceAges();
            each(BAD, x.mean(-1), x.mean(2), x.mean(MIN), x.mean(MAX));
            each(BAD, x.rate(0, 0), x.rate(4, 0), x.rate(-1, 1), x.rate(MIN, 0), x.rate(MAX, 0));
            each(BAD, x.rate(1, -1), x.rate(1, 2), x.rate(3, MIN), x.rate(3, MAX));
        });
        test("9 fails, 10 block: BAD", () -> {
            ReplaceAges x = new ReplaceAges();
            each(BAD, x.fails(-1, 0), x.fails(11, 0), x.fails(MIN, 1), x.fails(MAX, 1));
            each(BAD, x.fails(0, -1), x.fails(10, 2), x.fails(0, MIN), x.fails(10, MAX));
            each(BAD, x.block(0, 0), x.block(11, 0), x.block(-1, 0), x.block(MIN, 1), x.block(MAX, 1));
            each(BAD, x.block(1, -1), x.block(10, 2), x.block(1, MIN), x.block(10, MAX));
        });
    }

    // ---- 2 what is best

    private static void leastAndPair() {
        test("11 least: h (0 .. 5), i (0 .. n less 1), what 0 .. 2: BAD", () -> {
            ReplaceAges x = new ReplaceAges();
            each(BAD, x.least(-1, 0, 0), x.least(6, 0, 0), x.least(MIN, 0, 0), x.least(MAX, 0, 0));
            each(BAD, x.least(1, -1, 0), x.least(1, 3, 0), x.least(0, 3, 2), x.least(1, MIN, 0), x.least(1, MAX, 0));
            each(BAD, x.least(1, 0, -1), x.least(1, 0, 3), x.least(0, 0, MIN), x.least(5, 2, MAX));
            x.ages(1);
            each(BAD, x.least(1, 1, 0));
        });
        test("2: LEAST of 0 periods is 0, of 5 at its greatest", () -> {
            ReplaceAges x = of("9");
            fraction("of 0", x.least(0, 0, 0), x.least(0, 0, 1), 0, 1);
            x.tell(0, 99);
            x.tell(1, 99);
            fraction("of 5, each fails", x.least(5, 0, 0), x.least(5, 0, 1), 495, 1);
            x = of("9,4,2,2,2,1,1,3;99,99");
            for (int time = 0; time < 20; time++) {
                fraction("of 5 from n less 1", x.least(5, 7, 0), x.least(5, 7, 1), 894971, 4096);
            }
            x = of("1;10,4");
            fraction("of 5 by ALL 1", x.least(5, 0, 0), x.least(5, 0, 1), 50, 1);
            fraction("of 0 behind it", x.least(0, 0, 0), x.least(0, 0, 1), 0, 1);
            due("of 0 is not BETTER behind it", x.least(0, 0, 2), 0);
        });
        test("2: BETTER: whether replacing costs less (as much is not less); by h 0: 0", () -> {
            ReplaceAges x = of("0,1;6,6");
            due("6 and 6", x.least(1, 1, 2), 0);
            x.tell(1, 5);
            due("5 and 6", x.least(1, 1, 2), 1);
            due("h 0", x.least(0, 1, 2), 0);
            x.tell(1, 7);
            due("7 and 6", x.least(1, 1, 2), 0);
            x.tell(1, 0);
            due("a new one for a new one, for nothing", x.least(1, 0, 2), 0);
            due("of 5", x.least(5, 0, 2), 0);
            due("an old one for nothing", x.least(5, 1, 2), 1);
        });
        test("12 pair: g (1 .. n), h (0 .. 3): BAD", () -> {
            ReplaceAges x = new ReplaceAges();
            each(BAD, x.pair(0, 1, 0), x.pair(-1, 1, 0), x.pair(4, 1, 0), x.pair(MIN, 1, 0), x.pair(MAX, 0, 0));
            each(BAD, x.pair(1, -1, 0), x.pair(1, 4, 0), x.pair(3, MIN, 0), x.pair(3, MAX, 0));
            each(BAD, x.pair(1, 1, -1), x.pair(1, 1, 2), x.pair(3, 3, MIN), x.pair(3, 3, MAX));
        });
        test("2: PAIR: of 0 periods; if both fail, none is changed", () -> {
            ReplaceAges x = of("3;10,99");
            fraction("of 0", x.pair(1, 0, 0), x.pair(1, 0, 1), 0, 1);
            fraction("of 3, both always fail", x.pair(1, 3, 0), x.pair(1, 3, 1), 60, 1);
        });
        test("2: PAIR: the other one has lasted g periods or more, with the one that ran now", () -> {
            // A part fails in its period 1 or 3, as often; HAZARDS are 1/2, 0, 1.
            ReplaceAges x = of("1,0,1;8,4");
            fraction("lasted 1 by g 1", x.pair(1, 2, 0), x.pair(1, 2, 1), 35, 2);
            fraction("lasted 2 by g 2", x.pair(2, 2, 0), x.pair(2, 2, 1), 13, 1);
            fraction("lasted 2 by g 3", x.pair(3, 2, 0), x.pair(3, 2, 1), 12, 1);
            x = of("1,1,1;9,3");
            fraction("lasted 2 by g 1", x.pair(1, 2, 0), x.pair(1, 2, 1), 434, 27);
        });
        test("2: PAIR at its greatest", () -> {
            ReplaceAges x = of("9,4,2,2,2,1,1,3;99,99");
            fraction("by g 8 of 3", x.pair(8, 3, 0), x.pair(8, 3, 1), 47817, 256);
        });
    }

    private static void thePart() {
        test("13 run: n PERIODS (1 .. 100): BAD", () -> {
            ReplaceAges x = of("5");
            each(BAD, x.run(0), x.run(-1), x.run(101), x.run(MIN), x.run(MAX));
            due("THE DRAW stays", draw(x), 1);
            due("1", x.run(1), 1);
            due("100", x.run(100), 100);
            due("PERIODS", x.count(8), 101);
            due("failures", x.count(6), 101);
            due("THE BILL", x.count(9), 1010);
        });
        test("2: x left over by LEFT of its AGE is less than the WEIGHT (as much is not less)", () -> {
            int[] xs = {0, 2, 3, 5, 6, 8, 9, 32767};
            int[] fails = {1, 1, 0, 0, 1, 1, 0, 1};
            for (int i = 0; i < xs.length; i++) {
                ReplaceAges x = of("3,3");
                nextX(x, xs[i]);
                due("x " + xs[i] + " by 6", x.run(1), fails[i]);
                due("AGE behind it", x.count(5), 1 - fails[i]);
            }
            ReplaceAges x = of("0,3,1");
            nextX(x, 0);
            due("a WEIGHT of 0 never fails", x.run(1), 0);
            nextX(x, 3);
            due("x 3 by LEFT of 1, 4", x.run(1), 0);
            nextX(x, 32767);
            due("AGE n less 1 always fails", x.run(1), 1);
        });
        test("2: if AGE is a or more, it's changed; else not", () -> {
            ReplaceAges x = of("0,0,0,0,0,0,0,1;10,4");
            x.tell(2, 3);
            due("2", x.run(2), 0);
            due("AGE below a", x.count(5), 2);
            due("no change yet", x.count(7), 0);
            due("3", x.run(1), 0);
            due("AGE is a: changed", x.count(5), 0);
            due("one change", x.count(7), 1);
            due("CHANGE", x.count(9), 4);
            x.run(2);
            x.tell(2, 1);
            due("AGE above a, until a PERIOD is run", x.count(5), 2);
            due("AGE more than a", x.run(1), 0);
            due("changed", x.count(5), 0);
            due("two changes", x.count(7), 2);
            due("a 1: each PERIOD", x.run(5), 0);
            due("seven changes", x.count(7), 7);
        });
        test("2: THE RULE 8 never changes a part: that of AGE 7 fails", () -> {
            ReplaceAges x = of("0,0,0,0,0,0,0,1");
            due("7", x.run(7), 0);
            due("AGE", x.count(5), 7);
            due("the 8th", x.run(1), 1);
            due("changes", x.count(7), 0);
            x.tell(2, 7);
            due("by THE RULE 7", x.run(7), 0);
            due("changes", x.count(7), 1);
        });
        test("2: FAILURE, CHANGE is added to THE BILL, as it is told then", () -> {
            ReplaceAges x = of("0,1;9,5");
            due("a failure", x.run(2), 1);
            x.tell(2, 1);
            due("two changes", x.run(2), 0);
            due("THE BILL", x.count(9), 19);
            x.tell(1, 99);
            x.run(1);
            due("THE BILL", x.count(9), 118);
            x.tell(2, 8);
            x.tell(0, 99);
            x.run(2);
            due("THE BILL", x.count(9), 217);
            same("failures, changes, PERIODS", x.count(6) + " " + x.count(7) + " " + x.count(8), "2 3 7");
        });
        test("2: THE BILL, failures, PERIODS by as many calls as an object is used for", () -> {
            ReplaceAges x = of("1;99,99");
            for (int call = 0; call < 490; call++) x.run(100);
            same("counts", x.count(6) + " " + x.count(8) + " " + x.count(9), "49000 49000 4851000");
        });
        test("2: a CHANGE of 0 is a change, too, and adds nothing", () -> {
            ReplaceAges x = of("0,1;9,0");
            x.tell(2, 1);
            due("run", x.run(10), 0);
            due("changes", x.count(7), 10);
            due("THE BILL", x.count(9), 0);
        });
        test("2: THE DRAW is a number of 31 bits: changed, it is the lowest 31 bits", () -> {
            ReplaceAges x = new ReplaceAges();
            x.seed(0);
            x.run(1);
            due("of 0", draw(x), 12345);
            x.seed(MAX);
            x.run(1);
            due("of the greatest", draw(x), 1043980748);
            x.seed(aheadOf(MAX));
            x.run(1);
            due("to the greatest", draw(x), MAX);
            x.seed(aheadOf(0));
            x.run(1);
            due("to 0", draw(x), 0);
        });
        test("2: x is it by 65536 (cut)", () -> {
            ReplaceAges x = of("1,1");
            x.seed(aheadOf(65535));
            due("65535 is x 0", x.run(1), 1);
            x.seed(aheadOf(65536));
            due("65536 is x 1", x.run(1), 0);
            x = of("1,1");
            x.seed(aheadOf(2 * 65536 - 1));
            due("131071 is x 1", x.run(1), 0);
        });
    }

    private static void begunAnew() {
        test("3: When a WEIGHT, n, a TEXT is told, THE PART begins anew; THE BILL, failures, changes, periods stay", () -> {
            Call[] told = {x -> x.weigh(1, 1), x -> x.ages(8), x -> x.ages(4), x -> text(x, "0,0,0,0,0,1")};
            for (Call call : told) {
                ReplaceAges x = of("0,0,0,1,0,0,1;10,4");
                x.seed(aheadOf(65536));
                x.tell(2, 2);
                x.run(2);
                x.tell(2, 8);
                x.run(7);
                x.run(3);
                String stays = x.count(6) + " " + x.count(7) + " " + x.count(8) + " " + x.count(9);
                due("it lasted", x.count(5) > 0 ? 1 : 0, 1);
                due("told", call.on(x) >= 0 ? 1 : 0, 1);
                due("AGE", x.count(5), 0);
                same("what stays", x.count(6) + " " + x.count(7) + " " + x.count(8) + " " + x.count(9), stays);
            }
        });
        test("3: THE PART does not begin anew by a refused one, nor by FAILURE, CHANGE, THE RULE, a seed, an IMAGE", () -> {
            ReplaceAges x = of("0,0,0,0,0,0,0,1");
            x.run(3);
            x.tell(0, 50);
            x.tell(1, 50);
            x.tell(2, 2);
            x.weigh(8, 1);
            x.weigh(8, 0);
            x.ages(8);
            x.ages(7);
            x.seed(4);
            x.image();
            text(x, "0");
            due("AGE", x.count(5), 3);
        });
        test("3: by a turn of a DRIFT a WEIGHT, be it as it was; by a turn that may not be nothing", () -> {
            ReplaceAges x = of("0,0,1");
            x.run(2);
            nextX(x, 10 * 24 + 0);
            due("WEIGHT 1 becomes 0, as it was", x.drift(1), 1);
            due("AGE", x.count(5), 0);
            x.run(2);
            nextX(x, 10 * 24 + 2);
            due("WEIGHT 3 may not be 0", x.drift(1), 1);
            due("AGE", x.count(5), 2);
        });
    }

    // ---- 3 what is done

    private static void fault(String letters, int place) {
        due("\"" + letters + "\"", text(new ReplaceAges(), letters), -20 - place);
    }

    private static void good(String letters, String weights, int failure, int change) {
        ReplaceAges x = new ReplaceAges();
        due("n of \"" + letters + "\"", text(x, letters), weights.split(",").length);
        same("\"" + letters + "\"", weights(x) + ";" + x.count(2) + "," + x.count(3), weights + ";" + failure + "," + change);
    }

    private static void texts() {
        test("14 type: BAD: not 32 .. 126; FULL: 60", () -> {
            ReplaceAges x = new ReplaceAges();
            each(BAD, x.type(31), x.type(127), x.type(-1), x.type(0), x.type(256 + '1'), x.type(65536 + '1'), x.type(MIN), x.type(MAX));
            due("32", x.type(32), 1);
            due("126", x.type(126), 2);
            for (int i = 3; i <= 60; i++) due("letter " + i, x.type('1'), i);
            each(FULL, x.type('1'), x.type(32));
            due("read()", x.read(), -21);
            due("empty again", x.type('1'), 1);
        });
        test("15 read: a full TAPE of 60 letters", () -> {
            ReplaceAges x = new ReplaceAges();
            StringBuilder s = new StringBuilder("1,2;3,4");
            while (s.length() < 60) s.insert(0, ' ');
            type(x, s.toString());
            due("the 61st", x.type('5'), FULL);
            due("read()", x.read(), 2);
            same("told", weights(x) + ";" + x.count(2) + "," + x.count(3), "1,2;3,4");
            StringBuilder blanks = new StringBuilder();
            while (blanks.length() < 60) blanks.append(' ');
            fault(blanks.toString(), 60);
        });
        test("3: WEIGHTS with , between (1 .. 8 figures)", () -> {
            good("5", "5", 10, 4);
            good("1,2,3,4,1,2,3,8", "1,2,3,4,1,2,3,8", 10, 4);
            fault("", 0);
            fault(",1", 0);
            fault("1,,2", 2);
            fault(";5,5", 0);
        });
        test("3: a 9th WEIGHT's ,", () -> {
            fault("1,1,1,1,1,1,1,1,1", 15);
            fault("1,1,1,1,1,1,1,1,", 15);
            fault("1,1,1,1,1,1,1,1 ,1", 16);
            fault("1,1,1,1,1,1,1,0,1", 15);
            good("1,1,1,1,1,1,1,1;2,3", "1,1,1,1,1,1,1,1", 2, 3);
        });
        test("3: a second figure of a WEIGHT, a letter that can't stand there", () -> {
            fault("12", 1);
            fault("1,12", 3);
            fault("1x", 1);
            fault("/", 0);
            fault(":", 0);
            fault("1.", 1);
            fault("1,-", 2);
        });
        test("3: then perhaps ; FAILURE , CHANGE: numbers of one or two figures; a third figure", () -> {
            good("1;1,0", "1", 1, 0);
            good("1;99,99", "1", 99, 99);
            good("1;01,00", "1", 1, 0);
            good("1;10,09", "1", 10, 9);
            fault("1;123,4", 4);
            fault("1;100,4", 4);
            fault("1;5,123", 6);
            fault("1;5,000", 6);
            fault("1;5;5", 3);
            fault("1;5,,", 4);
            fault("1;5,5,", 5);
            fault("1;5,5;", 5);
            fault("1;x", 2);
            fault("1;,5", 2);
            fault("1; ,5", 3);
        });
        test("3: the last figure of a FAILURE that is 0, if no third one is there", () -> {
            fault("1;0,4", 2);
            fault("1;0", 2);
            fault("1;0x", 2);
            fault("1;00,4", 3);
            fault("1;00", 3);
            fault("1;000,4", 4);
            fault("1;001,4", 4);
            fault("1;00 ,4", 3);
            fault("1; 0 ,4", 3);
            fault("1;0 0,4", 2);
        });
        test("3: the end: how many letters there are", () -> {
            fault("", 0);
            fault("   ", 3);
            fault("1,", 2);
            fault("1,  ", 4);
            fault("1;", 2);
            fault("1; ", 3);
            fault("1;5", 3);
            fault("1;55 ", 5);
            fault("1;5,", 4);
            fault("1;5, ", 5);
        });
        test("3: the figure of a WEIGHT by which ALL were above 24", () -> {
            good("9,9,6", "9,9,6", 10, 4);
            fault("9,9,7", 4);
            fault("9,9,7x", 4);
            fault("9,9,6,1", 6);
            fault("9,9,6,0,0,1", 10);
            fault(" 9, 9, 9 ", 7);
            fault("9,x,9,9", 2);
            fault("9,9,9;0", 4);
        });
        test("3: if the last WEIGHT is 0, that one's figure (if all behind it can stand)", () -> {
            fault("0", 0);
            fault("1,0", 2);
            fault("1, 0 ", 3);
            fault("1,0;5,4", 2);
            fault("1,0 ; 5,4 ", 2);
            fault("1,0;5,4,", 7);
            fault("1,0x", 3);
            fault("1,0;", 4);
            fault("1,0;0,4", 4);
            fault("1,0;5,444", 8);
            fault("9,9,6,0", 6);
            good("0,0,1", "0,0,1", 10, 4);
        });
        test("3: Blanks count for nothing, but end a row of figures", () -> {
            good("  3 , 0,2 ; 09 ,00  ", "3,0,2", 9, 0);
            good(" 1", "1", 10, 4);
            good("1 ", "1", 10, 4);
            fault("1 1", 2);
            fault("1;5 5,4", 4);
            fault("1;5,4 4", 6);
            fault("1;5,44 4", 7);
            fault("  x", 2);
            fault("1  x", 3);
        });
        test("15 read: without costs these stay; the same TEXT may be UNDONE, too", () -> {
            ReplaceAges x = of("4;77,66");
            due("read()", text(x, "4"), 1);
            same("costs", x.count(2) + "," + x.count(3), "77,66");
            due("known", x.count(13), 2);
            due("a TEXT's costs as they were", text(x, "4;77,66"), 1);
            due("known", x.count(13), 3);
            x.tell(0, 55);
            x.tell(1, 44);
            due("read()", text(x, "4"), 1);
            same("costs told", x.count(2) + "," + x.count(3), "55,44");
            due("a FAULT behind costs", text(x, "4;33,22x"), -27);
            due("read()", text(x, "4"), 1);
            same("costs told", x.count(2) + "," + x.count(3), "55,44");
        });
    }

    private static void drifts() {
        test("16 drift: n turns (1 .. 40): BAD", () -> {
            ReplaceAges x = new ReplaceAges();
            each(BAD, x.drift(0), x.drift(-1), x.drift(41), x.drift(MIN), x.drift(MAX));
            due("THE DRAW stays", draw(x), 1);
            due("1", x.drift(1), 6);
            due("40 are answered by ALL", x.drift(40), x.count(1));
            long draw = 1;
            for (int i = 0; i < 41; i++) draw = (draw * 1103515245L + 12345) & 0x7fffffffL;
            due("THE DRAW behind 41", draw(x), draw);
        });
        test("3: k being x left over by n, and 1; (x by 8, cut) left over by 10", () -> {
            int[] xs = {8, 10, 7, 79, 81, 88, 32767};
            String[] becomes = {"1,1,1", "1,1,1", "1,0,1", "1,9,1", "0,1,1", "1,1,1", "1,5,1"};
            for (int i = 0; i < xs.length; i++) {
                ReplaceAges x = of("1,1,1");
                nextX(x, xs[i]);
                x.drift(1);
                same("x " + xs[i], weights(x), becomes[i]);
            }
            ReplaceAges x = of("1,1,1");
            nextX(x, 16);
            x.drift(1);
            same("x 16: WEIGHT 2", weights(x), "1,2,1");
            nextX(x, 23);
            x.drift(1);
            same("x 23: WEIGHT n", weights(x), "1,2,2");
            nextX(x, 24);
            x.drift(1);
            same("x 24: WEIGHT 1", weights(x), "3,2,2");
        });
        test("3: if THE TABLE may be so: ALL 24 and 25, the WEIGHT of n 0; else nothing", () -> {
            ReplaceAges x = of("9,9,5");
            nextX(x, 8 * 7);
            due("WEIGHT 3 becomes 7: 25", x.drift(1), 23);
            nextX(x, 8 * 6 + 2);
            due("WEIGHT 3 becomes 6: 24", x.drift(1), 24);
            nextX(x, 8 * 10);
            due("WEIGHT 3 becomes 0", x.drift(1), 24);
            same("WEIGHTS", weights(x), "9,9,6");
            due("known", x.count(13), 4);
            x = of("9,9,5");
            nextX(x, 8 * 7 + 6);
            due("WEIGHT 3 becomes 7", x.drift(1), 23);
            due("THE DRAW is changed all the same", draw(x), (8 * 7 + 6) * 65536);
            x = of("5");
            nextX(x, 0);
            due("the only WEIGHT is never 0", x.drift(1), 5);
        });
        test("16 drift: each may be UNDONE, one that changes nothing, too", () -> {
            ReplaceAges x = of("5");
            nextX(x, 0);
            int ahead = draw(x);
            x.drift(1);
            due("known", x.count(13), 2);
            due("undo()", x.undo(), 1);
            due("THE DRAW ahead of it", draw(x), ahead);
            x = new ReplaceAges();
            x.drift(3);
            due("known of 3", x.count(13), 3);
            x.drift(4);
            due("known of 7", x.count(13), 6);
        });
    }

    private static void undone() {
        test("17 undo: NONE: none is known", () -> {
            ReplaceAges x = new ReplaceAges();
            due("at first", x.undo(), NONE);
            x.weigh(1, 2);
            due("one", x.undo(), 0);
            due("again", x.undo(), NONE);
            due("0 known", x.count(13), 0);
        });
        test("3: 6 are known, older ones lost", () -> {
            ReplaceAges x = new ReplaceAges();
            for (int v = 11; v <= 16; v++) x.tell(0, v);
            due("known of 6", x.count(13), 6);
            for (int more = 5; more >= 0; more--) due("undo()", x.undo(), more);
            due("FAILURE at first", x.count(2), 10);
            for (int v = 21; v <= 27; v++) x.tell(0, v);
            due("known of 7", x.count(13), 6);
            for (int more = 5; more >= 0; more--) {
                due("undo()", x.undo(), more);
                due("FAILURE", x.count(2), 21 + more);
            }
            due("the oldest is lost", x.undo(), NONE);
            due("FAILURE by it", x.count(2), 21);
        });
        test("3: by 100 of them, 6 as well", () -> {
            ReplaceAges x = new ReplaceAges();
            for (int i = 0; i < 100; i++) x.tell(1, i % 2 == 0 ? 50 + i / 2 : 1 + i / 2);
            for (int more = 5; more >= 0; more--) due("undo()", x.undo(), more);
            due("CHANGE behind 94", x.count(3), 47);
            due("none more", x.undo(), NONE);
        });
        test("3: what is UNDONE is no more known, one told then is", () -> {
            ReplaceAges x = new ReplaceAges();
            x.weigh(1, 2);
            x.weigh(1, 3);
            x.undo();
            x.weigh(1, 4);
            due("known", x.count(13), 2);
            due("undo()", x.undo(), 1);
            due("WEIGHT", x.age(1, 2), 2);
            due("undo()", x.undo(), 0);
            due("WEIGHT", x.age(1, 2), 1);
        });
        test("3: UNDONE: each of a WEIGHT, n, FAILURE, CHANGE, THE RULE, PERIODS, a TEXT, a turn; all is as ahead of it", () -> {
            Call[] done = {x -> x.weigh(1, 5), x -> x.ages(3), x -> x.ages(6), x -> x.tell(0, 50), x -> x.tell(1, 50),
                x -> x.tell(2, 1), x -> x.run(1), x -> x.run(100), x -> text(x, "2,1;1,1"), x -> x.drift(1)};
            for (int i = 0; i < done.length; i++) {
                ReplaceAges x = of("0,0,2,3;20,10");
                x.run(31);
                x.tell(2, 3);
                x.run(3);
                due("AGE, so that it could be lost", x.count(5), 1);
                String ahead = plan(x);
                done[i].on(x);
                due("one more is known, " + i, x.count(13), 5);
                due("undo() " + i, x.undo(), 4);
                same("ahead of " + i, plan(x), ahead);
            }
        });
        test("3: whatever was told since: THE DRAW too", () -> {
            ReplaceAges x = new ReplaceAges();
            x.seed(77);
            x.weigh(1, 2);
            x.seed(88);
            due("seed is nothing UNDONE", x.count(13), 1);
            x.undo();
            due("THE DRAW", draw(x), 77);
        });
        test("3: all but SHEETS, THE TAPE, IMAGES", () -> {
            ReplaceAges x = new ReplaceAges();
            x.weigh(1, 2);
            x.image();
            x.weigh(1, 3);
            x.sheet(0, 1, 3);
            x.type('1');
            x.weigh(1, 4);
            x.undo();
            x.undo();
            due("THE TAPE", x.type('2'), 2);
            due("the SHEET", x.drop(0), 3);
            x.undo();
            due("the IMAGE", x.restore(), 1);
            due("its WEIGHT", x.age(1, 2), 2);
            x = new ReplaceAges();
            text(x, "1,2");
            x.undo();
            due("a TEXT UNDONE does not stand on THE TAPE again", x.type('1'), 1);
        });
    }

    private static void seedsAndImages() {
        test("18 seed: BAD: below 0", () -> {
            ReplaceAges x = new ReplaceAges();
            each(BAD, x.seed(-1), x.seed(MIN));
            due("0", x.seed(0), 1);
            due("the greatest", x.seed(MAX), 0);
            due("as it is", x.seed(MAX), MAX);
            due("nothing is known", x.count(13), 0);
        });
        test("20 restore: NONE: there is none", () -> {
            ReplaceAges x = new ReplaceAges();
            x.weigh(1, 2);
            due("none", x.restore(), NONE);
            due("WEIGHT", x.age(1, 2), 2);
            due("image()", x.image(), 1);
            due("restore()", x.restore(), 1);
            due("again", x.restore(), 1);
        });
        test("19 image: All, what may be UNDONE, too (none, and 6)", () -> {
            ReplaceAges x = new ReplaceAges();
            x.image();
            for (int v = 11; v <= 18; v++) x.tell(0, v);
            x.restore();
            due("none", x.count(13), 0);
            due("undo()", x.undo(), NONE);
            for (int v = 11; v <= 18; v++) x.tell(0, v);
            x.image();
            for (int i = 0; i < 6; i++) x.undo();
            for (int v = 71; v <= 78; v++) x.tell(0, v);
            text(x, "1;1,1");
            for (int round = 0; round < 2; round++) {
                x.restore();
                due("FAILURE", x.count(2), 18);
                for (int more = 5; more >= 0; more--) {
                    due("undo()", x.undo(), more);
                    due("FAILURE", x.count(2), 12 + more);
                }
                due("none more", x.undo(), NONE);
                for (int v = 81; v <= 88; v++) x.tell(0, v);
            }
        });
        test("20 restore: All is as it was then: THE TABLE, costs, THE RULE, THE PART, THE BILL, THE DRAW", () -> {
            ReplaceAges x = of("0,3,4;30,20");
            x.tell(2, 2);
            x.run(50);
            x.tell(2, 7);
            x.run(1);
            x.seed(MAX);
            String then = plan(x);
            x.image();
            text(x, "5;6,7");
            x.tell(2, 1);
            x.run(99);
            x.drift(40);
            x.restore();
            same("all", plan(x), then);
        });
        test("19 image: but SHEETS, THE TAPE; the latest IMAGE counts", () -> {
            ReplaceAges x = new ReplaceAges();
            x.sheet(0, 0, 4);
            x.type('1');
            x.image();
            x.drop(0);
            x.sheet(1, 1, 5);
            x.type('2');
            x.restore();
            due("THE TAPE", x.type('3'), 3);
            due("SHEET 0", x.drop(0), NULL);
            due("SHEET 1", x.drop(1), 5);
            x.weigh(1, 2);
            x.image();
            x.weigh(1, 3);
            x.restore();
            due("WEIGHT", x.age(1, 2), 2);
        });
    }

    // ---- sheets

    private static void sheetsMade() {
        test("23 sheet: sheets 0 .. 3, LANES 0 .. 3: BAD", () -> {
            ReplaceAges x = new ReplaceAges();
            each(BAD, x.sheet(-1, 0, 1), x.sheet(4, 0, 1), x.sheet(MIN, 0, 1), x.sheet(MAX, 0, 1));
            each(BAD, x.sheet(0, -1, 1), x.sheet(0, 4, 1), x.sheet(0, MIN, 1), x.sheet(0, MAX, 1));
            for (int s = 0; s < 4; s++) {
                for (int lane = 0; lane < 4; lane++) due("sheet " + s + " of " + lane, x.sheet(s, lane, 2), 2);
            }
        });
        test("23 sheet: 0 to 24 items: BAD: also n above 24; SIZE: n below 0", () -> {
            ReplaceAges x = new ReplaceAges();
            each(BAD, x.sheet(0, 0, 25), x.sheet(0, 3, 26), x.sheet(3, 0, MAX));
            each(SIZE, x.sheet(0, 0, -1), x.sheet(3, 3, MIN));
            each(NULL, x.drop(0), x.drop(3));
            due("24", x.sheet(0, 3, 24), 24);
            due("item 23", x.item(0, 3, 23, 5), 1);
            due("item 24", x.item(0, 3, 24, 5), INDEX);
            due("0", x.sheet(1, 0, 0), 0);
            due("no item", x.item(1, 0, 0, 5), INDEX);
            due("drop of 24", x.drop(0), 24);
            due("drop of 0", x.drop(1), 0);
        });
        test("23 sheet: A SHEET holds a new row of a LANE", () -> {
            ReplaceAges x = new ReplaceAges();
            dearChanges(x);
            put(x, 0, 0, 1, 2, 3);
            due("anew", x.sheet(0, 0, 3), 3);
            same("new items are 0", row(x, 0, 0), "xxx");
            put(x, 0, 0, 1, 2, 3);
            x.sheet(0, 2, 2);
            due("the other LANE is gone", x.item(0, 0, 0, 1), CAST);
            same("of another LANE", row(x, 0, 2), "xx");
            x.item(0, 2, 1, 7);
            x.drop(0);
            x.sheet(0, 2, 5);
            same("behind a drop", row(x, 0, 2), "xxxxx");
        });
        test("24 drop: BAD; NULL", () -> {
            ReplaceAges x = new ReplaceAges();
            each(BAD, x.drop(-1), x.drop(4), x.drop(MIN), x.drop(MAX));
            each(NULL, x.drop(0), x.drop(1), x.drop(2), x.drop(3));
            x.sheet(2, 1, 7);
            due("drop", x.drop(2), 7);
            each(NULL, x.drop(2), x.item(2, 1, 0, 1), x.seen(2, 1, 0, 1), x.film(2, 1, 0), x.copy(2, 0, 2, 0, 0));
        });
        test("25 item: BAD; NULL; CAST; INDEX", () -> {
            ReplaceAges x = new ReplaceAges();
            each(BAD, x.item(-1, 0, 0, 1), x.item(4, 0, 0, 1), x.item(0, -1, 0, 1), x.item(0, 4, 0, 1), x.item(MIN, 0, 0, 1), x.item(0, MAX, 0, 1));
            due("nothing", x.item(0, 0, 0, 1), NULL);
            for (int lane = 0; lane < 4; lane++) {
                x.sheet(0, lane, 2);
                for (int as = 0; as < 4; as++) due("LANE " + lane + " as " + as, x.item(0, as, 1, 1), as == lane ? 1 : CAST);
                each(INDEX, x.item(0, lane, -1, 1), x.item(0, lane, 2, 1), x.item(0, lane, MIN, 1), x.item(0, lane, MAX, 1));
            }
        });
        test("25 item: becomes v, its lowest bits (all with a sign)", () -> {
            ReplaceAges x = new ReplaceAges();
            dearChanges(x);
            int[] bits = {8, 16, 32, 64};
            for (int lane = 0; lane < 4; lane++) {
                long over = lane < 3 ? 1L << bits[lane] : 0, sign = 1L << (bits[lane] - 1);
                put(x, 0, lane, 1, 8, 0, 9, -1, over + 3, sign + 3, Long.MIN_VALUE + over + 5, sign / 2 + 3, -over + 6);
                same("LANE " + lane, row(x, 0, lane), lane < 3 ? "18xxx3x5x6" : "18xxx3xxx6");
                put(x, 0, lane, Long.MAX_VALUE, Long.MIN_VALUE);
                same("LANE " + lane + " of the greatest, the least", row(x, 0, lane), "xx");
            }
        });
    }

    private static void sheetsUsed() {
        test("21 seen: BAD; NULL; CAST; INDEX", () -> {
            ReplaceAges x = new ReplaceAges();
            each(BAD, x.seen(-1, 0, 0, 1), x.seen(4, 0, 0, 1), x.seen(0, -1, 0, 1), x.seen(0, 4, 0, 1));
            each(BAD, x.seen(MIN, 0, 0, 1), x.seen(MAX, 0, 0, 1), x.seen(0, MIN, 0, 1), x.seen(0, MAX, 0, 1));
            due("nothing", x.seen(0, 0, 0, 1), NULL);
            put(x, 0, 1, 3, 3, 3);
            each(CAST, x.seen(0, 0, 0, 1), x.seen(0, 2, 0, 1), x.seen(0, 3, 0, 1));
            each(INDEX, x.seen(0, 1, -1, 1), x.seen(0, 1, 3, 1), x.seen(0, 1, 2, 2), x.seen(0, 1, 0, 4), x.seen(0, 1, MAX, 12), x.seen(0, 1, MIN, 1));
            each(2, x.seen(0, 1, 0, 3), x.seen(0, 1, 2, 1));
            x.sheet(0, 1, 0);
            due("a row of no item", x.seen(0, 1, 0, 1), INDEX);
        });
        test("3: SEEN: n AGES (1 .. 12)", () -> {
            ReplaceAges x = new ReplaceAges();
            dearChanges(x);
            put(x, 0, 0, 3, 3, 3, 3, 3, 3, 3, 3, 3, 3, 3, 3, 3);
            each(BAD, x.seen(0, 0, 0, 0), x.seen(0, 0, 0, -1), x.seen(0, 0, 0, 13), x.seen(0, 0, 0, MIN), x.seen(0, 0, 0, MAX));
            each(3, x.seen(0, 0, 0, 1), x.seen(0, 0, 0, 12), x.seen(0, 0, 1, 12));
            due("12 from 2 on", x.seen(0, 0, 2, 12), INDEX);
        });
        test("3: SEEN: each 1 .. 8; NOT: an item is no such AGE", () -> {
            ReplaceAges x = new ReplaceAges();
            dearChanges(x);
            put(x, 0, 3, 1, 8, 0, 9, -1, (1L << 32) + 1, (1L << 40) + 8, Long.MIN_VALUE + 1, Long.MAX_VALUE);
            due("1", x.seen(0, 3, 0, 1), 1);
            due("8", x.seen(0, 3, 1, 1), 8);
            for (int i = 2; i < 9; i++) due("item " + i, x.seen(0, 3, i, 1), NOT);
            due("a good one first", x.seen(0, 3, 1, 2), NOT);
            put(x, 0, 3, 0, 8);
            due("a good one last", x.seen(0, 3, 0, 2), NOT);
        });
        test("3: SEEN: WEIGHTS how often each AGE is in the row, and the greatest one n; THE TABLE stays", () -> {
            ReplaceAges x = of("9,9,6;10,4");
            put(x, 0, 2, 4, 1, 4, 5, 4, 1, 8);
            due("1, 4 thrice, 5", x.seen(0, 2, 0, 5), 3);
            due("one 1", x.seen(0, 2, 1, 1), 1);
            due("1, 8: the most is run but for AGE 8's failure", x.seen(0, 2, 5, 2), 7);
            due("8 alone: RATE 4/7 of 7", x.seen(0, 2, 6, 1), 7);
            x.tell(1, 9);
            due("4 alone by dear changes: 9/3 and 10/4", x.seen(0, 2, 0, 1), 4);
            x.tell(1, 4);
            due("1, 4 thrice, 5 again", x.seen(0, 2, 0, 5), 3);
            x.item(0, 2, 2, 0);
            due("no such AGE", x.seen(0, 2, 0, 5), NOT);
            due("behind it 5 alone", x.seen(0, 2, 3, 1), 4);
            same("THE TABLE", weights(x), "9,9,6");
        });
        test("22 film: BAD; NULL; CAST; INDEX", () -> {
            ReplaceAges x = of("4,5,6");
            dearChanges(x);
            each(BAD, x.film(-1, 0, 0), x.film(4, 0, 0), x.film(0, -1, 0), x.film(0, 4, 0), x.film(MIN, 0, 0), x.film(0, MAX, 0));
            due("nothing", x.film(0, 0, 0), NULL);
            x.sheet(0, 2, 5);
            each(CAST, x.film(0, 0, 0), x.film(0, 1, 0), x.film(0, 3, 0));
            each(INDEX, x.film(0, 2, -1), x.film(0, 2, 3), x.film(0, 2, 5), x.film(0, 2, MIN), x.film(0, 2, MAX));
            same("nothing came", row(x, 0, 2), "xxxxx");
            due("to the end", x.film(0, 2, 2), 3);
            same("it came", row(x, 0, 2), "xx456");
            due("from 0 on", x.film(0, 2, 0), 3);
            same("it came", row(x, 0, 2), "45656");
            x.sheet(0, 2, 2);
            due("a row too short", x.film(0, 2, 0), INDEX);
            x.sheet(0, 2, 0);
            due("a row of no item", x.film(0, 2, 0), INDEX);
        });
        test("22 film: WEIGHTS of AGES 1 .. n, n 1 and n 8, to each LANE", () -> {
            for (int lane = 0; lane < 4; lane++) {
                ReplaceAges x = of("1,2,3,4,0,1,2,8");
                dearChanges(x);
                put(x, 1, lane, 7, 7, 7, 7, 7, 7, 7, 7, 7);
                due("n 8", x.film(1, lane, 1), 8);
                same("LANE " + lane, row(x, 1, lane), "71234x128");
                x.ages(1);
                due("n 1", x.film(1, lane, 8), 1);
                same("LANE " + lane, row(x, 1, lane), "71234x121");
                due("one too far", x.film(1, lane, 9), INDEX);
            }
        });
        test("26 copy: BAD; NULL (either); CAST: of unlike LANES; INDEX (n below 0, too)", () -> {
            ReplaceAges x = new ReplaceAges();
            each(BAD, x.copy(-1, 0, 0, 0, 0), x.copy(4, 0, 0, 0, 0), x.copy(0, 0, -1, 0, 0), x.copy(0, 0, 4, 0, 0), x.copy(MIN, 0, 0, 0, 0), x.copy(0, 0, MAX, 0, 0));
            x.sheet(0, 0, 5);
            each(NULL, x.copy(0, 0, 1, 0, 1), x.copy(1, 0, 0, 0, 1), x.copy(1, 0, 2, 0, 1));
            for (int lane = 1; lane < 4; lane++) {
                x.sheet(1, lane, 5);
                each(CAST, x.copy(0, 0, 1, 0, 1), x.copy(1, 0, 0, 0, 1));
            }
            x.sheet(1, 0, 3);
            each(INDEX, x.copy(0, 0, 1, 0, -1), x.copy(0, 1, 1, 1, -1), x.copy(0, 0, 1, 0, MIN), x.copy(0, 5, 1, 3, MIN));
            each(INDEX, x.copy(0, -1, 1, 0, 2), x.copy(0, 0, 1, -1, 2), x.copy(0, 3, 1, 0, 3), x.copy(0, 0, 1, 1, 3), x.copy(0, 0, 1, 0, 4));
            each(INDEX, x.copy(0, 0, 1, 0, MAX), x.copy(0, MAX, 1, 0, 1), x.copy(0, 0, 1, MAX, 1), x.copy(0, MAX, 1, MAX, MAX));
            each(3, x.copy(0, 2, 1, 0, 3), x.copy(1, 0, 0, 2, 3), x.copy(0, 0, 0, 2, 3));
        });
        test("26 copy: to another one (or the same), as if all were taken ahead", () -> {
            ReplaceAges x = new ReplaceAges();
            dearChanges(x);
            put(x, 0, 1, 1, 2, 3, 4, 5);
            due("upward", x.copy(0, 0, 0, 1, 4), 4);
            same("upward", row(x, 0, 1), "11234");
            put(x, 0, 1, 1, 2, 3, 4, 5);
            due("downward", x.copy(0, 1, 0, 0, 4), 4);
            same("downward", row(x, 0, 1), "23455");
            due("upon itself", x.copy(0, 0, 0, 0, 5), 5);
            same("upon itself", row(x, 0, 1), "23455");
            put(x, 2, 1, 8, 8, 8);
            due("to another one", x.copy(0, 2, 2, 1, 2), 2);
            same("to another one", row(x, 2, 1), "845");
            same("it stays", row(x, 0, 1), "23455");
            due("no item", x.copy(0, 0, 2, 0, 0), 0);
            same("nothing came", row(x, 2, 1), "845");
        });
        test("26 copy: the whole of 24 items, of each LANE", () -> {
            for (int lane = 0; lane < 4; lane++) {
                ReplaceAges x = new ReplaceAges();
                dearChanges(x);
                long[] items = new long[24];
                StringBuilder want = new StringBuilder();
                for (int i = 0; i < 24; i++) {
                    items[i] = 1 + i % 8;
                    want.append(items[i]);
                }
                put(x, 3, lane, items);
                x.sheet(0, lane, 24);
                due("24", x.copy(3, 0, 0, 0, 24), 24);
                due("25", x.copy(3, 0, 0, 0, 25), INDEX);
                same("LANE " + lane, row(x, 0, lane), want.toString());
            }
        });
    }

    // ---- any calls

    private static final int[] NUMBERS = {MIN, MIN + 1, -65536, -25, -2, -1, 0, 1, 2, 3, 4, 5, 6, 7, 8, 9, 10, 11, 12, 13, 14,
        23, 24, 25, 40, 41, 44, 48, 49, 57, 59, 60, 61, 99, 100, 101, 126, 127, 256, 65536, MAX - 1, MAX};

    /** A number of the row above, one of 0 .. 8 as often. */
    private static int number(java.util.Random chance) {
        return chance.nextBoolean() ? chance.nextInt(9) : NUMBERS[chance.nextInt(NUMBERS.length)];
    }

    private static long anyCall(ReplaceAges x, int which, int a, int b, int c, int d, int e) {
        switch (which) {
            case 0: return x.weigh(a, b);
            case 1: return x.ages(a);
            case 2: return x.tell(a, b);
            case 3: return x.age(a, b);
            case 4: return x.count(a);
            case 5: return x.mean(a);
            case 6: return x.rate(a, b);
            case 7: return x.fails(a, b);
            case 8: return x.block(a, b);
            case 9: return x.least(a, b, c);
            case 10: return x.pair(a, b, c);
            case 11: return x.run(a);
            case 12: return x.type(a);
            case 13: return x.read();
            case 14: return x.drift(a);
            case 15: return x.undo();
            case 16: return x.seed(a);
            case 17: return x.image();
            case 18: return x.restore();
            case 19: return x.seen(a, b, c, d);
            case 20: return x.film(a, b, c);
            case 21: return x.sheet(a, b, c);
            case 22: return x.drop(a);
            case 23: return x.item(a, b, c, (long) d << 32 ^ e);
            default: return x.copy(a, b, c, d, e);
        }
    }

    private static void anyCalls() {
        test("512 calls of any numbers: none throws, and the same calls give the same answers", () -> {
            for (int seed = 0; seed < 200; seed++) {
                java.util.Random chance = new java.util.Random(seed);
                ReplaceAges x = new ReplaceAges(), twin = new ReplaceAges();
                for (int call = 0; call < 512; call++) {
                    int which = chance.nextInt(25);
                    int a = number(chance), b = number(chance), c = number(chance), d = number(chance), e = number(chance);
                    due("call " + which, anyCall(x, which, a, b, c, d, e), anyCall(twin, which, a, b, c, d, e));
                }
            }
        });
        test("1: THE TABLE stays within its bounds whatever is called", () -> {
            for (int seed = 0; seed < 100; seed++) {
                java.util.Random chance = new java.util.Random(-seed - 1);
                ReplaceAges x = new ReplaceAges();
                for (int call = 0; call < 100; call++) {
                    anyCall(x, new int[] {0, 1, 2, 11, 14, 15, 16, 17, 18}[chance.nextInt(9)], number(chance), number(chance), 0, 0, 0);
                    int n = x.count(0), all = x.count(1);
                    if (n < 1 || n > 8 || all < 1 || all > 24 || x.age(n, 2) < 1) fault("THE TABLE is " + weights(x));
                }
            }
        });
    }

    public static void main(String[] args) {
        answersInTheirOrder();
        refusedCallsChangeNothing();
        fractions();
        theTable();
        ratesAndBlocks();
        tableCalls();
        leastAndPair();
        thePart();
        begunAnew();
        texts();
        drifts();
        undone();
        seedsAndImages();
        sheetsMade();
        sheetsUsed();
        anyCalls();
        System.out.println(tests + " sentences; " + (wrong == 0 ? "all answers are as due" : wrong + " answers are not as due"));
        if (wrong != 0) System.exit(1);
    }
}
