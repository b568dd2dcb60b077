/** One method a promise: what it answers ordinarily, at its edges, and to what it refuses. */
public final class PromiseTests {
    private static int wrong = 0;
    private static final int MIN = Integer.MIN_VALUE, MAX = Integer.MAX_VALUE;

    private static void due(String call, long got, long want) {
        if (got != want) {
            wrong++;
            System.out.println(call + " answered " + got + ", due is " + want);
        }
    }

    private static void dueAll(String call, long want, long... got) {
        for (int i = 0; i < got.length; i++) {
            due(call + " #" + i, got[i], want);
        }
    }

    private static int text(ReplaceAges x, String letters) {
        for (int i = 0; i < letters.length(); i++) {
            x.type(letters.charAt(i));
        }
        return x.read();
    }

    private static ReplaceAges of(String letters) {
        ReplaceAges x = new ReplaceAges();
        if (text(x, letters) < 0) {
            wrong++;
            System.out.println("no text: " + letters);
        }
        return x;
    }

    /** Counts 0 .. 13 in a row, then the WEIGHTS. */
    private static String state(ReplaceAges x) {
        StringBuilder s = new StringBuilder();
        for (int what = 0; what <= 13; what++) {
            s.append(x.count(what)).append(' ');
        }
        for (int k = 1; k <= x.count(0); k++) {
            s.append('/').append(x.age(k, 2));
        }
        return s.toString();
    }

    private static void same(String what, String got, String want) {
        if (!got.equals(want)) {
            wrong++;
            System.out.println(what + " is " + got + ", due is " + want);
        }
    }

    private static void promise1New() {
        ReplaceAges x = new ReplaceAges();
        same("a new object", state(x), "3 3 10 4 8 0 0 0 0 0 1 2 10 0 /1/1/1");
        due("draw at first", x.seed(5), 1);
        due("tape at first", x.type('1'), 1);
        for (int s = 0; s < 4; s++) {
            due("sheet at first " + s, x.drop(s), ReplaceAges.NULL);
        }
        due("image at first", x.restore(), ReplaceAges.NONE);
    }

    private static void promise2Weigh() {
        ReplaceAges x = new ReplaceAges();
        dueAll("weigh bad", ReplaceAges.BAD, x.weigh(0, 1), x.weigh(4, 1), x.weigh(1, -1), x.weigh(1, 10),
            x.weigh(MIN, 1), x.weigh(MAX, 1), x.weigh(1, MAX), x.weigh(1, MIN), x.weigh(4, 10));
        due("weigh so", x.weigh(3, 1), ReplaceAges.NOT);
        due("weigh none", x.weigh(3, 0), ReplaceAges.NONE);
        due("nothing known", x.count(13), 0);
        due("weigh 1", x.weigh(1, 9), 1);
        due("weigh 2", x.weigh(2, 9), 1);
        due("weigh full", x.weigh(3, 7), ReplaceAges.FULL);
        due("weigh 24", x.weigh(3, 6), 1);
        due("all", x.count(1), 24);
        due("weigh down", x.weigh(1, 0), 9);
        due("weigh back to 24", x.weigh(1, 9), 0);
        due("weight", x.age(1, 2), 9);
    }

    private static void promise3Ages() {
        ReplaceAges x = new ReplaceAges();
        dueAll("ages bad", ReplaceAges.BAD, x.ages(0), x.ages(9), x.ages(-1), x.ages(MIN), x.ages(MAX));
        due("ages so", x.ages(3), ReplaceAges.NOT);
        x.weigh(2, 0);
        due("ages none", x.ages(2), ReplaceAges.NONE);
        due("ages 1", x.ages(1), 3);
        due("ages 8", x.ages(8), 1);
        due("all", x.count(1), 8);
        due("a new AGE's weight", x.age(2, 2), 1);
        x = of("9,9,5");
        due("ages full", x.ages(5), ReplaceAges.FULL);
        due("ages to 24", x.ages(4), 3);
        due("all", x.count(1), 24);
        due("ages full by one", x.ages(5), ReplaceAges.FULL);
        due("undo", x.undo(), 1);
        due("n", x.count(0), 3);
        x = of("1,1,7");
        x.ages(2);
        x.ages(3);
        due("a weight that was lost", x.age(3, 2), 1);
    }

    private static void promise4Tell() {
        ReplaceAges x = new ReplaceAges();
        dueAll("tell bad", ReplaceAges.BAD, x.tell(-1, 5), x.tell(3, 5), x.tell(MIN, 5), x.tell(MAX, 5), x.tell(0, 0),
            x.tell(0, 100), x.tell(1, -1), x.tell(1, 100), x.tell(2, 0), x.tell(2, 9), x.tell(2, MAX), x.tell(0, MIN));
        dueAll("tell so", ReplaceAges.NOT, x.tell(0, 10), x.tell(1, 4), x.tell(2, 8));
        due("nothing known", x.count(13), 0);
        due("failure", x.tell(0, 99), 10);
        due("change", x.tell(1, 0), 4);
        due("rule", x.tell(2, 1), 8);
        due("failure 1", x.tell(0, 1), 99);
        due("change 99", x.tell(1, 99), 0);
        due("rule 8", x.tell(2, 8), 1);
        same("counts", x.count(2) + " " + x.count(3) + " " + x.count(4), "1 99 8");
        due("known", x.count(13), 6);
    }

    private static void promise5Age() {
        ReplaceAges x = of("0,2,6,4");
        dueAll("age bad", ReplaceAges.BAD, x.age(0, 0), x.age(5, 0), x.age(1, -1), x.age(1, 4), x.age(MIN, 0),
            x.age(MAX, 3), x.age(1, MAX));
        long[] want = {0, 1, 0, 12, 1, 6, 2, 10, 3, 5, 6, 4, 1, 1, 4, 0};
        for (int k = 1; k <= 4; k++) {
            for (int what = 0; what < 4; what++) {
                due("age(" + k + ", " + what + ")", x.age(k, what), want[4 * (k - 1) + what]);
            }
        }
    }

    private static void promise6Count() {
        ReplaceAges x = new ReplaceAges();
        dueAll("count bad", ReplaceAges.BAD, x.count(-1), x.count(14), x.count(MIN), x.count(MAX));
        due("n 1 rises and falls", of("3").count(10), 3);
        due("n 2 falls", of("9,1").count(10), 3);
        due("n 2 that falls alone never is", of("0,1").count(10), 3);
        due("falling", of("8,2,1,6").count(10), 2);
        due("neither", of("1,0,1,1").count(10), 0);
        due("like hazards", of("8,4,2,1,1").count(10), 3);
        due("like rates: the least age", of("0,0,1,1,2,3;50,5").count(11), 2);
        due("best age of one", of("1").count(11), 1);
        due("free changes, no early failure: the least", of("0,0,1;9,0").count(11), 1);
        due("best block of like ones", of("0,0,1,1,2,3;50,0").count(12), 1);
        due("best block", of("0,0,1,1,2,3;50,5").count(12), 2);
        due("best block by n 1: the greatest", of("1;1,99").count(12), 10);
        due("best block by great numbers", of("9,4,2,2,2,1,1,3;99,99").count(12), 10);
    }

    private static void promise7Mean() {
        ReplaceAges x = of("0,2,6,4");
        dueAll("mean bad", ReplaceAges.BAD, x.mean(-1), x.mean(2), x.mean(MIN), x.mean(MAX));
        due("mean above", x.mean(0), 19);
        due("mean below", x.mean(1), 6);
        due("mean of one", of("5").mean(0), 1);
        due("mean of one", of("5").mean(1), 1);
    }

    private static void promise8Rate() {
        ReplaceAges x = of("0,2,6,4;30,10");
        dueAll("rate bad", ReplaceAges.BAD, x.rate(0, 0), x.rate(5, 0), x.rate(1, -1), x.rate(1, 2), x.rate(MIN, 0),
            x.rate(MAX, 1));
        long[] want = {10, 1, 20, 3, 140, 17, 180, 19};
        for (int a = 1; a <= 4; a++) {
            due("rate above " + a, x.rate(a, 0), want[2 * a - 2]);
            due("rate below " + a, x.rate(a, 1), want[2 * a - 1]);
        }
        x = of("0,1;7,0");
        due("a rate of 0", x.rate(1, 0), 0);
        due("a rate of 0, below", x.rate(1, 1), 1);
    }

    private static void promise9Fails() {
        ReplaceAges x = of("1,3");
        dueAll("fails bad", ReplaceAges.BAD, x.fails(-1, 0), x.fails(11, 0), x.fails(1, -1), x.fails(1, 2),
            x.fails(MIN, 0), x.fails(MAX, 1));
        due("fails 0 below", x.fails(0, 1), 1);
        due("fails 1", x.fails(1, 0), 1);
        due("fails 1", x.fails(1, 1), 4);
        due("fails 2: 1/4 of 5/4 and 3/4", x.fails(2, 0), 17);
        due("fails 2: 1/4 of 5/4 and 3/4", x.fails(2, 1), 16);
        due("fails of n 1", of("9").fails(10, 0), 10);
        due("fails of n 1", of("9").fails(10, 1), 1);
        due("none fails yet", of("0,0,0,0,0,0,0,1").fails(7, 0), 0);
        due("all fail at once", of("0,0,0,0,0,0,0,1").fails(8, 0), 1);
    }

    private static void promise10Block() {
        ReplaceAges x = of("1,3;8,3");
        dueAll("block bad", ReplaceAges.BAD, x.block(0, 0), x.block(-1, 0), x.block(11, 0), x.block(1, -1), x.block(1, 2),
            x.block(MIN, 0), x.block(MAX, 1));
        due("block 1", x.block(1, 0), 5);
        due("block 1", x.block(1, 1), 1);
        due("block 2: 8 times 17/16 and 3, by 2", x.block(2, 0), 23);
        due("block 2: 8 times 17/16 and 3, by 2", x.block(2, 1), 4);
        x = of("0,1;8,0");
        due("block of 0", x.block(1, 0), 0);
        due("block of 0", x.block(1, 1), 1);
        x = of("9,4,2,2,2,1,1,3;99,99");
        due("a great block", x.block(10, 0), 11590503913681L);
    }

    private static void promise11Least() {
        ReplaceAges x = new ReplaceAges();
        dueAll("least bad", ReplaceAges.BAD, x.least(-1, 0, 0), x.least(6, 0, 0), x.least(1, -1, 0), x.least(1, 3, 0),
            x.least(1, 0, -1), x.least(1, 0, 3), x.least(MIN, 0, 0), x.least(0, MAX, 0), x.least(0, 0, MAX));
        due("least of 0", x.least(0, 2, 0), 0);
        due("least of 0", x.least(0, 2, 1), 1);
        due("least of 0 is not better", x.least(0, 2, 2), 0);
        due("keep at 1", x.least(1, 1, 0), 5);
        due("keep at 1", x.least(1, 1, 2), 0);
        due("replace at 2: 4 and 10/3", x.least(1, 2, 0), 22);
        due("replace at 2: 4 and 10/3", x.least(1, 2, 1), 3);
        due("two of a new one: 1/3 of 40/3, 2/3 of 5", x.least(2, 0, 0), 70);
        due("two of a new one: 1/3 of 40/3, 2/3 of 5", x.least(2, 0, 1), 9);
        x = of("0,1;6,6");
        due("as dear is not better", x.least(1, 1, 2), 0);
        x.tell(1, 5);
        due("less dear is better", x.least(1, 1, 2), 1);
        x.tell(1, 0);
        due("a new one for a new one is not better", x.least(3, 0, 2), 0);
        due("for nothing", x.least(5, 1, 0), 0);
    }

    private static void promise12Pair() {
        ReplaceAges x = of("1,3;8,3");
        dueAll("pair bad", ReplaceAges.BAD, x.pair(0, 1, 0), x.pair(3, 1, 0), x.pair(1, -1, 0), x.pair(1, 4, 0),
            x.pair(1, 1, -1), x.pair(1, 1, 2), x.pair(MIN, 0, 0), x.pair(MAX, 0, 1));
        due("pair of 0", x.pair(2, 0, 0), 0);
        due("pair of 0", x.pair(2, 0, 1), 1);
        due("pair of 1: 2/4 of 8, 6/16 of 3", x.pair(1, 1, 0), 41);
        due("pair of 1: 2/4 of 8, 6/16 of 3", x.pair(1, 1, 1), 8);
        due("pair by n: none is changed", x.pair(2, 1, 0), 4);
        due("pair by n: twice fails of 2", x.pair(2, 2, 0), 17);
        due("pair by n: twice fails of 2", x.pair(2, 2, 1), 1);
    }

    private static void promise13Run() {
        ReplaceAges x = of("5");
        dueAll("run bad", ReplaceAges.BAD, x.run(0), x.run(-1), x.run(101), x.run(MIN), x.run(MAX));
        due("draw stays", x.seed(1), 1);
        due("n 1 fails always", x.run(100), 100);
        same("after", state(x), "1 5 10 4 8 0 100 0 100 1000 3 1 10 2 /5");
        x = of("0,0,0,1;50,7");
        due("run 3", x.run(3), 0);
        due("lasted", x.count(5), 3);
        x.tell(2, 2);
        due("the part stays by a rule", x.count(5), 3);
        x.undo();
        due("run 1", x.run(1), 1);
        due("bill", x.count(9), 50);
        x.run(3);
        x.tell(2, 2);
        x.tell(0, 51);
        due("the fourth fails, though the rule is 2", x.run(1), 1);
        due("bill", x.count(9), 101);
        due("run by rule 2", x.run(5), 0);
        due("changes", x.count(7), 2);
        due("age", x.count(5), 1);
        due("bill", x.count(9), 115);
        x.tell(2, 8);
        x.run(1);
        x.tell(2, 1);
        due("older than the rule: changed", x.run(1), 0);
        due("changes", x.count(7), 3);
        due("age", x.count(5), 0);
        // The draws from 1 on: x is 16838, 5758, 10113, 17515, 31051, 5627, 23010, 7419.
        x = of("1,2,3");
        due("by draws", x.run(1), 0);
        due("16838 by 6 leaves 2: it lasts", x.count(5), 1);
        due("5758 by 5 leaves 3: it lasts", x.run(1), 0);
        due("10113 by 3: it fails", x.run(1), 1);
        due("17515 by 6 leaves 1: it lasts", x.run(1), 0);
        due("31051 by 5 leaves 1: it fails", x.run(1), 1);
        due("draw", x.seed(0) / 65536, 31051);
    }

    private static void promise14Type() {
        ReplaceAges x = new ReplaceAges();
        dueAll("type bad", ReplaceAges.BAD, x.type(31), x.type(127), x.type(-1), x.type(MIN), x.type(MAX), x.type(256 + 49));
        due("type 32", x.type(32), 1);
        due("type 126", x.type(126), 2);
        for (int i = 3; i <= 60; i++) {
            due("type", x.type(' '), i);
        }
        due("type full", x.type('1'), ReplaceAges.FULL);
        due("type bad ahead of full", x.type(31), ReplaceAges.BAD);
        due("read", x.read(), -21);
        due("type anew", x.type('1'), 1);
        due("undo knows no letters", x.undo(), ReplaceAges.NONE);
    }

    private static void fault(String letters, int place) {
        ReplaceAges x = of("1,2;30,20");
        String before = state(x);
        due("\"" + letters + "\"", text(x, letters), -20 - place);
        same("\"" + letters + "\" changes", state(x), before);
        due("the tape behind \"" + letters + "\"", x.type('1'), 1);
    }

    private static void promise15Read() {
        fault("", 0);
        fault("   ", 3);
        fault("a", 0);
        fault("1,", 2);
        fault("1,  ", 4);
        fault("1,,1", 2);
        fault("11", 1);
        fault("1 1", 2);
        fault(" ,1", 1);
        fault("1,1,1,1,1,1,1,1,", 15);
        fault("1,1,1,1,1,1,1,1 ,1", 16);
        fault("9,9,7", 4);
        fault("9,9,7x", 4);
        fault("9,9,6,0,1", 8);
        fault("9,9,6,0", 6);
        fault("0", 0);
        fault("1, 0 ", 3);
        fault("0;0,1", 2);
        fault("0;5", 3);
        fault("0;5,", 4);
        fault("0;5,5x", 5);
        fault("0;5,5", 0);
        fault("1;", 2);
        fault("1; ", 3);
        fault("1;;", 2);
        fault("1;,", 2);
        fault("1;0", 2);
        fault("1;0x", 2);
        fault("1;0 0,1", 2);
        fault("1;00", 3);
        fault("1;00 0,1", 3);
        fault("1;000", 4);
        fault("1;100", 4);
        fault("1;5 5", 4);
        fault("1;5;5", 3);
        fault("1;5,5,", 5);
        fault("1;5,555", 6);
        fault("1;5,55 5", 7);
        fault("1;5,5;", 5);
        fault("1;-5,5", 2);
        ReplaceAges x = of("  3 , 0,2 ; 09 ,00  ");
        same("a text", state(x), "3 5 9 0 8 0 0 0 0 0 " + x.count(10) + " 2 " + x.count(12) + " 1 /3/0/2");
        due("n of a text", text(x, "9,9,6;99,99"), 3);
        due("a text without costs", text(x, "1"), 1);
        same("stay", x.count(2) + " " + x.count(3), "99 99");
        due("the same text", text(x, "1"), 1);
        due("known, too", x.count(13), 4);
        x = of("0,0,1");
        x.run(2);
        due("lasted", x.count(5), 2);
        text(x, "0,0,1");
        due("anew", x.count(5), 0);
    }

    private static void promise16Drift() {
        ReplaceAges x = new ReplaceAges();
        dueAll("drift bad", ReplaceAges.BAD, x.drift(0), x.drift(-1), x.drift(41), x.drift(MIN), x.drift(MAX));
        due("draw stays", x.seed(1), 1);
        // x 16838: WEIGHT 3 becomes 2104 by 10, 4; 5758: WEIGHT 2 becomes 719 by 10, 9;
        // 10113: WEIGHT 1 becomes 1264 by 10, 4; 17515: WEIGHT 2 becomes 2189 by 10, 9 (as it was).
        due("a turn", x.drift(1), 6);
        due("two turns", x.drift(2), 17);
        due("known", x.count(13), 3);
        x = of("4,9,4");
        due("draw", x.seed(0), 1);
        x.seed(drawAhead(3));
        x.run(1);
        x.seed(drawAhead(3));
        int lasted = x.count(5);
        due("a turn that tells a weight as it was", x.drift(1), 17);
        due("begins anew", x.count(5), 0);
        due("undo", x.undo(), 2);
        due("lasted ahead of it", x.count(5), lasted);
        // x 5758 by n 3 is WEIGHT 2, 9: ALL would be 26, so nothing is told, but THE DRAW is changed.
        x = of("8,0,9");
        x.run(1);
        due("16838 by 17 leaves 8: it lasts", x.count(5), 1);
        due("a turn that may not be", x.drift(1), 17);
        due("does not begin anew", x.count(5), 1);
        due("draw", x.seed(0), drawAhead(2));
        due("may be undone", x.undo(), 2);
        due("draw ahead of it", x.seed(0), drawAhead(1));
        // x 80 by n 1 is WEIGHT 1; 80 by 8 by 10 leaves 0.
        x = of("5");
        x.seed(drawOf(80));
        due("the weight of n is never 0", x.drift(1), 5);
        due("known", x.count(13), 2);
        x = new ReplaceAges();
        x.drift(40);
        due("known of 40", x.count(13), 6);
    }

    /** A DRAW that, changed, has the x told. */
    private static int drawOf(int x) {
        for (int draw = 0; draw < MAX; draw++) {
            if (((draw * 1103515245L + 12345L) & 0x7fffffffL) >> 16 == x) {
                return draw;
            }
        }
        return -1;
    }

    /** THE DRAW that stands behind so many changes of 1. */
    private static int drawAhead(int changes) {
        long draw = 1;
        for (int i = 0; i < changes; i++) {
            draw = (draw * 1103515245L + 12345L) & 0x7fffffffL;
        }
        return (int) draw;
    }

    private static void promise17Undo() {
        ReplaceAges x = new ReplaceAges();
        due("undo none", x.undo(), ReplaceAges.NONE);
        String[] states = new String[9];
        states[0] = state(x);
        x.weigh(1, 5);
        states[1] = state(x);
        x.ages(2);
        states[2] = state(x);
        x.tell(0, 77);
        states[3] = state(x);
        x.tell(1, 33);
        x.tell(2, 3);
        states[5] = state(x);
        x.run(7);
        states[6] = state(x);
        text(x, "3,2;1,1");
        states[7] = state(x);
        x.seed(99);
        x.drift(1);
        same("known", Integer.toString(x.count(13)), "6");
        due("undo a turn", x.undo(), 5);
        same("ahead of the turn", head(state(x)), head(states[7]));
        due("the seed told ahead of it", x.seed(3), 99);
        due("undo the text", x.undo(), 4);
        same("ahead of the text", head(state(x)), head(states[6]));
        due("undo the run", x.undo(), 3);
        same("ahead of the run", head(state(x)), head(states[5]));
        due("draw ahead of the run", x.seed(1), 1);
        due("undo the rule", x.undo(), 2);
        due("undo change", x.undo(), 1);
        same("ahead of change", head(state(x)), head(states[3]));
        due("undo failure", x.undo(), 0);
        same("ahead of failure", head(state(x)), head(states[2]));
        due("older ones are lost", x.undo(), ReplaceAges.NONE);
        x.type('5');
        x.sheet(0, 0, 2);
        x.weigh(1, 6);
        x.type(',');
        x.drop(0);
        x.undo();
        due("the tape stays", x.type('5'), 3);
        due("the sheets stay", x.drop(0), ReplaceAges.NULL);
    }

    /** All of a state but what may be UNDONE. */
    private static String head(String state) {
        String[] counts = state.split(" ");
        counts[13] = "";
        return String.join(" ", counts);
    }

    private static void promise18Seed() {
        ReplaceAges x = new ReplaceAges();
        dueAll("seed bad", ReplaceAges.BAD, x.seed(-1), x.seed(MIN));
        due("seed", x.seed(MAX), 1);
        due("seed 0", x.seed(0), MAX);
        due("seed as it is", x.seed(0), 0);
        x.drift(1);
        due("12345", x.seed(MAX), 12345);
        x.drift(1);
        due("of the greatest", x.seed(1), (MAX * 1103515245L + 12345L) & 0x7fffffffL);
        due("known: just turns", x.count(13), 2);
    }

    private static void promise19Image() {
        ReplaceAges x = new ReplaceAges();
        due("image", x.image(), 1);
        due("it tells nothing", x.count(13), 0);
        x.weigh(1, 7);
        due("image anew", x.image(), 1);
        x.weigh(1, 8);
        x.restore();
        due("the later one", x.age(1, 2), 7);
        due("what may be undone, too", x.count(13), 1);
        due("undo", x.undo(), 0);
        due("first", x.age(1, 2), 1);
    }

    private static void promise20Restore() {
        ReplaceAges x = new ReplaceAges();
        due("restore none", x.restore(), ReplaceAges.NONE);
        text(x, "2,3,4,5;60,50");
        x.tell(2, 3);
        x.run(40);
        x.seed(123);
        String before = state(x);
        x.image();
        x.type('7');
        x.sheet(1, 1, 3);
        text(x, "1");
        x.drift(20);
        x.type('8');
        x.run(9);
        for (int i = 0; i < 3; i++) {
            x.undo();
        }
        due("restore", x.restore(), 1);
        same("restored", state(x), before);
        due("draw", x.seed(1), 123);
        due("the tape stays", x.type('9'), 2);
        due("sheets stay", x.drop(1), 3);
        due("undo of then", x.undo(), 2);
        due("rule of then", x.count(4), 3);
        due("periods of then", x.count(8), 0);
        x.drift(9);
        due("restore again", x.restore(), 1);
        same("restored again", state(x), before);
    }

    private static void put(ReplaceAges x, int sheet, int lane, long... items) {
        x.sheet(sheet, lane, items.length);
        for (int i = 0; i < items.length; i++) {
            due("item", x.item(sheet, lane, i, items[i]), 1);
        }
    }

    private static void promise21Seen() {
        ReplaceAges x = new ReplaceAges();
        dueAll("seen bad", ReplaceAges.BAD, x.seen(-1, 0, 0, 1), x.seen(4, 0, 0, 1), x.seen(0, -1, 0, 1),
            x.seen(0, 4, 0, 1), x.seen(0, 0, 0, 0), x.seen(0, 0, 0, 13), x.seen(0, 0, 0, MIN), x.seen(MAX, 0, 0, 1));
        due("seen null", x.seen(0, 0, -1, 1), ReplaceAges.NULL);
        put(x, 0, 2, 1, 4, 4, 4, 5, 9, 0, 3, 3, 3, 3, 3, 3, 3, 3, 3, 3, 3, 3);
        due("seen cast", x.seen(0, 3, -1, 1), ReplaceAges.CAST);
        dueAll("seen index", ReplaceAges.INDEX, x.seen(0, 2, -1, 1), x.seen(0, 2, 19, 1), x.seen(0, 2, 18, 2),
            x.seen(0, 2, MAX, 12), x.seen(0, 2, MIN, 1), x.seen(0, 2, MAX, 1));
        dueAll("seen not", ReplaceAges.NOT, x.seen(0, 2, 0, 6), x.seen(0, 2, 6, 1), x.seen(0, 2, 6, 12));
        due("seen", x.seen(0, 2, 0, 5), 3);
        due("seen: one age", x.seen(0, 2, 0, 1), 1);
        due("seen: 12 of 3, cheap changes", x.seen(0, 2, 7, 12), 2);
        x.tell(1, 99);
        due("seen: dear changes", x.seen(0, 2, 7, 12), 3);
        due("the table stays", x.count(1), 3);
        // RATES of 8, 8: 8/7, 10/8; of all: 76/20, 80/22. What was seen ahead counts for nothing.
        x.tell(1, 8);
        put(x, 1, 1, 1, 1, 1, 1, 1, 1, 8, 8);
        due("seen: 8 alone", x.seen(1, 1, 6, 2), 7);
        due("seen: 1 and 8", x.seen(1, 1, 0, 8), 8);
        due("seen: 8 alone again", x.seen(1, 1, 6, 2), 7);
        x.tell(1, 99);
        put(x, 3, 3, 1L << 32 | 1, -1);
        dueAll("seen not by longs", ReplaceAges.NOT, x.seen(3, 3, 0, 1), x.seen(3, 3, 1, 1));
        put(x, 3, 0, 256 + 8);
        due("seen: a byte's lowest bits", x.seen(3, 0, 0, 1), 8);
    }

    private static void promise22Film() {
        ReplaceAges x = of("1,2,3,4;99,0");
        dueAll("film bad", ReplaceAges.BAD, x.film(-1, 0, 0), x.film(4, 0, 0), x.film(0, -1, 0), x.film(0, 4, 0));
        due("film null", x.film(0, 0, -1), ReplaceAges.NULL);
        x.sheet(0, 1, 6);
        due("film cast", x.film(0, 0, -1), ReplaceAges.CAST);
        dueAll("film index", ReplaceAges.INDEX, x.film(0, 1, -1), x.film(0, 1, 3), x.film(0, 1, MAX), x.film(0, 1, MIN));
        due("film", x.film(0, 1, 2), 4);
        due("ahead of it 0", x.seen(0, 1, 1, 1), ReplaceAges.NOT);
        x.tell(1, 99);
        for (int k = 1; k <= 4; k++) {
            // By dear changes the best age is the greatest one.
            due("filmed " + k, x.seen(0, 1, 1 + k, 1), k);
        }
    }

    private static void promise23Sheet() {
        ReplaceAges x = new ReplaceAges();
        dueAll("sheet bad", ReplaceAges.BAD, x.sheet(-1, 0, 1), x.sheet(4, 0, 1), x.sheet(0, -1, 1), x.sheet(0, 4, 1),
            x.sheet(0, 0, 25), x.sheet(0, 0, MAX), x.sheet(4, 0, -1), x.sheet(0, 4, MIN));
        dueAll("sheet size", ReplaceAges.SIZE, x.sheet(0, 0, -1), x.sheet(3, 3, MIN));
        due("nothing yet", x.drop(0), ReplaceAges.NULL);
        due("sheet 24", x.sheet(0, 0, 24), 24);
        due("item 23", x.item(0, 0, 23, 5), 1);
        due("anew", x.sheet(0, 0, 24), 24);
        due("a new row holds 0", x.seen(0, 0, 23, 1), ReplaceAges.NOT);
        due("another lane", x.sheet(0, 3, 2), 2);
        due("another lane", x.item(0, 0, 0, 5), ReplaceAges.CAST);
        due("refused by size", x.sheet(0, 0, -1), ReplaceAges.SIZE);
        due("it stays", x.drop(0), 2);
    }

    private static void promise24Drop() {
        ReplaceAges x = new ReplaceAges();
        dueAll("drop bad", ReplaceAges.BAD, x.drop(-1), x.drop(4), x.drop(MIN), x.drop(MAX));
        due("drop null", x.drop(3), ReplaceAges.NULL);
        x.sheet(3, 2, 7);
        due("drop", x.drop(3), 7);
        due("drop again", x.drop(3), ReplaceAges.NULL);
        due("no item", x.item(3, 2, 0, 1), ReplaceAges.NULL);
        due("no film", x.film(3, 2, 0), ReplaceAges.NULL);
    }

    private static void promise25Item() {
        ReplaceAges x = new ReplaceAges();
        dueAll("item bad", ReplaceAges.BAD, x.item(-1, 0, 0, 1), x.item(4, 0, 0, 1), x.item(0, -1, 0, 1), x.item(0, 4, 0, 1));
        due("item null", x.item(0, 0, -1, 1), ReplaceAges.NULL);
        x.sheet(0, 1, 2);
        due("item cast", x.item(0, 2, -1, 1), ReplaceAges.CAST);
        dueAll("item index", ReplaceAges.INDEX, x.item(0, 1, -1, 1), x.item(0, 1, 2, 1), x.item(0, 1, MAX, 1), x.item(0, 1, MIN, 1));
        x.tell(1, 99);
        long[] bits = {8, 16, 32};
        for (int lane = 0; lane < 4; lane++) {
            x.sheet(lane, lane, 1);
            due("item", x.item(lane, lane, 0, Long.MIN_VALUE + 6), 1);
            due("lowest bits " + lane, x.seen(lane, lane, 0, 1), lane < 3 ? 6 : ReplaceAges.NOT);
            if (lane < 3) {
                x.item(lane, lane, 0, (1L << (bits[lane] - 1)) + 6);
                due("with a sign " + lane, x.seen(lane, lane, 0, 1), ReplaceAges.NOT);
                x.item(lane, lane, 0, (1L << bits[lane]) + 3);
                due("above the lane " + lane, x.seen(lane, lane, 0, 1), 3);
            }
        }
    }

    private static void promise26Copy() {
        ReplaceAges x = new ReplaceAges();
        dueAll("copy bad", ReplaceAges.BAD, x.copy(-1, 0, 0, 0, 0), x.copy(4, 0, 0, 0, 0), x.copy(0, 0, -1, 0, 0),
            x.copy(0, 0, 4, 0, 0));
        due("copy null", x.copy(0, -1, 1, -1, -1), ReplaceAges.NULL);
        x.tell(1, 99);
        put(x, 0, 0, 1, 2, 3, 4, 5);
        dueAll("copy null of one", ReplaceAges.NULL, x.copy(0, 0, 1, 0, 0), x.copy(1, 0, 0, 0, 0));
        x.sheet(1, 1, 5);
        due("copy cast", x.copy(0, -1, 1, -1, -1), ReplaceAges.CAST);
        x.sheet(1, 0, 3);
        dueAll("copy index", ReplaceAges.INDEX, x.copy(0, 0, 1, 0, -1), x.copy(0, 0, 1, 0, MIN), x.copy(0, -1, 1, 0, 0),
            x.copy(0, 0, 1, -1, 0), x.copy(0, 6, 1, 0, 0), x.copy(0, 0, 1, 4, 0), x.copy(0, 3, 1, 0, 3),
            x.copy(0, 0, 1, 1, 3), x.copy(0, 0, 1, 0, MAX), x.copy(0, MAX, 1, 0, 1), x.copy(0, 0, 1, MAX, MAX));
        dueAll("copy of none", 0, x.copy(0, 5, 1, 3, 0), x.copy(0, 0, 1, 0, 0));
        due("copy", x.copy(0, 2, 1, 0, 3), 3);
        row(x, 1, 3, 4, 5);
        due("copy upward", x.copy(0, 0, 0, 1, 4), 4);
        row(x, 0, 1, 1, 2, 3, 4);
        due("copy downward", x.copy(0, 1, 0, 0, 4), 4);
        row(x, 0, 1, 2, 3, 4, 4);
    }

    /** The AGES that a sheet of bytes holds; CHANGE is dear, so that SEEN tells each one. */
    private static void row(ReplaceAges x, int sheet, int... ages) {
        for (int i = 0; i < ages.length; i++) {
            due("item " + i + " of " + sheet, x.seen(sheet, 0, i, 1), ages[i]);
        }
    }

    private static void whatBeginsThePartAnew() {
        ReplaceAges x = of("0,0,0,0,0,0,0,1");
        x.run(3);
        x.tell(0, 50);
        x.tell(1, 50);
        x.tell(2, 7);
        x.weigh(8, 1);
        x.ages(8);
        x.ages(1);
        x.weigh(8, 0);
        x.seed(4);
        due("lasts", x.count(5), 3);
        x.weigh(1, 1);
        due("a weight", x.count(5), 0);
        due("periods stay", x.count(8), 3);
        x.undo();
        due("undone", x.count(5), 3);
        x.weigh(2, 1);
        x.run(1);
        x.ages(2);
        due("n", x.count(5), 0);
    }

    public static void main(String[] args) {
        promise1New();
        promise2Weigh();
        promise3Ages();
        promise4Tell();
        promise5Age();
        promise6Count();
        promise7Mean();
        promise8Rate();
        promise9Fails();
        promise10Block();
        promise11Least();
        promise12Pair();
        promise13Run();
        promise14Type();
        promise15Read();
        promise16Drift();
        promise17Undo();
        promise18Seed();
        promise19Image();
        promise20Restore();
        promise21Seen();
        promise22Film();
        promise23Sheet();
        promise24Drop();
        promise25Item();
        promise26Copy();
        whatBeginsThePartAnew();
        System.out.println(wrong == 0 ? "all answers are as due" : wrong + " answers are not as due");
        if (wrong != 0) {
            System.exit(1);
        }
    }
}
