/**
 * All short texts of some letters, behind some beginnings, read by the class and by a walk over
 * their letters that knows at each one what can stand next.
 */
public final class TextTests {
    private enum Next { WEIGHT, BEHIND_WEIGHT, FAILURE, IN_FAILURE, BEHIND_FAILURE, CHANGE, IN_CHANGE, BEHIND_CHANGE }

    private static final int MOST_CALLS = 512, CALLS_TO_LOOK = 13;

    private static int texts = 0, wrong = 0;
    private static ReplaceAges x = new ReplaceAges();
    private static int used = 0;

    /** What a text tells, or where its FAULT is. */
    private static final class Walk {
        final String text;
        Next next = Next.WEIGHT;
        String weights = "", failure = "", change = "";
        int all = 0, lastWeight = -1, lastOfFailure = -1;
        int fault = -1;

        Walk(String text) {
            this.text = text;
            for (int p = 0; p < text.length() && fault < 0; p++) step(p, text.charAt(p));
            if (fault < 0) end();
        }

        private void step(int p, char c) {
            boolean figure = c >= '0' && c <= '9';
            if (next == Next.IN_FAILURE && !figure && endFailure()) return;
            if (c == ' ') {
                if (next == Next.IN_CHANGE) next = Next.BEHIND_CHANGE;
                return;
            }
            if (figure ? !figureStands(p, c) : !signStands(c)) fault = p;
        }

        private boolean figureStands(int p, char c) {
            switch (next) {
                case WEIGHT:
                    weights += c;
                    all += c - '0';
                    lastWeight = p;
                    next = Next.BEHIND_WEIGHT;
                    return all <= 24;
                case FAILURE: case IN_FAILURE:
                    failure += c;
                    lastOfFailure = p;
                    next = Next.IN_FAILURE;
                    return failure.length() <= 2;
                case CHANGE: case IN_CHANGE:
                    change += c;
                    next = Next.IN_CHANGE;
                    return change.length() <= 2;
                default:
                    return false;
            }
        }

        private boolean signStands(char c) {
            if (next == Next.BEHIND_WEIGHT && c == ',' && weights.length() < 8) next = Next.WEIGHT;
            else if (next == Next.BEHIND_WEIGHT && c == ';') next = Next.FAILURE;
            else if (next == Next.BEHIND_FAILURE && c == ',') next = Next.CHANGE;
            else return false;
            return true;
        }

        /** The row of a FAILURE's figures has ended: whether it is a FAULT by being 0. */
        private boolean endFailure() {
            next = Next.BEHIND_FAILURE;
            if (Integer.parseInt(failure) == 0) fault = lastOfFailure;
            return fault >= 0;
        }

        private void end() {
            if (next == Next.IN_FAILURE && endFailure()) return;
            if (next != Next.BEHIND_WEIGHT && next != Next.IN_CHANGE && next != Next.BEHIND_CHANGE) fault = text.length();
            else if (weights.endsWith("0")) fault = lastWeight;
        }
    }

    private static void due(String text, String what, long got, long want) {
        if (got == want) return;
        wrong++;
        if (wrong < 50) System.out.println("\"" + text + "\": " + what + " is " + got + ", due is " + want);
    }

    private static void look(String text) {
        if (used + text.length() + CALLS_TO_LOOK > MOST_CALLS) {
            x = new ReplaceAges();
            used = 0;
        }
        used += text.length() + CALLS_TO_LOOK;
        texts++;
        int failure = x.count(2), change = x.count(3);
        for (int i = 0; i < text.length(); i++) x.type(text.charAt(i));
        int answer = x.read();
        Walk walk = new Walk(text);
        if (walk.fault >= 0) {
            due(text, "read()", answer, -20 - walk.fault);
            return;
        }
        due(text, "read()", answer, walk.weights.length());
        for (int k = 1; k <= walk.weights.length(); k++) due(text, "WEIGHT " + k, x.age(k, 2), walk.weights.charAt(k - 1) - '0');
        due(text, "FAILURE", x.count(2), walk.failure.isEmpty() ? failure : Integer.parseInt(walk.failure));
        due(text, "CHANGE", x.count(3), walk.change.isEmpty() ? change : Integer.parseInt(walk.change));
    }

    /** The beginning, and all texts that go on from it by up to so many of the letters. */
    private static void all(String beginning, String letters, int more) {
        look(beginning);
        for (int i = 0; more > 0 && i < letters.length(); i++) all(beginning + letters.charAt(i), letters, more - 1);
    }

    public static void main(String[] args) {
        all("", "019,; x", 6);
        all("1;", "01,; x", 7);
        all("1,0;", "01, x", 7);
        all("9,9,", "0679,; ", 5);
        all("1,1,1,1,1,1,1", "01,; ", 7);
        all("9,0,9,6,0", "01,; ", 6);
        System.out.println(texts + " texts; " + (wrong == 0 ? "all answers are as due" : wrong + " answers are not as due"));
        if (wrong != 0) System.exit(1);
    }
}
