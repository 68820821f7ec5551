/**
 * Every call with every combination of edge values, in states from a new object to a full one, held against Model: the
 * answer or the exception, all that can be read, and, by a life that goes on alike, what can't be read.
 */
public final class GridTest {
    private static final int M = Boxes.M;
    private static final int LOW = Integer.MIN_VALUE;
    private static final int HIGH = Integer.MAX_VALUE;

    private static final int[] MONEY = {-1, 0, M, M + 1};
    private static final int[] SIGNED = {-M - 1, -M, M, M + 1};
    private static final int[] FOUR = {LOW, -1, 0, 3, 4, HIGH};
    private static final int[] THREE = {LOW, -1, 0, 2, 3, HIGH};
    private static final int[] CLAIM_NUMBERS = {LOW, -1, 0, 1, 2, 3, 4, 19, 20, HIGH};
    private static final int[] SUMS = {LOW, -1, 0, 1, 19, 20, 21, 39, 40, 41, 60, 61, 150, 151, M, M + 1, HIGH};
    private static final int[] FLAG = {0, 1};

    /** By the numbers of the calls: the values to try for each argument. */
    private static final int[][][] TRIED = {
        {{LOW, -1, 0, M, M + 1, HIGH}, {LOW, -M - 1, -M, M, M + 1, HIGH}, {LOW, -1, 0, M, M + 1, HIGH}},
        {FOUR, MONEY, {-1, 0, 1, 2000, 2001}},
        {THREE, MONEY, MONEY, {-1, 0, 10 * M, 10 * M + 1}, {-1, 0, 2000, 2001}, FLAG},
        {FOUR, MONEY, MONEY},
        {FLAG},
        {MONEY, MONEY, SIGNED},
        {{LOW, -1, 0, 1, 2, 3, 4, 5, 399, 400, 401, 4000, 4001, HIGH}},
        {THREE, {LOW, -1, 0, 1, 2, M, M + 1, HIGH}},
        {CLAIM_NUMBERS, SUMS},
        {CLAIM_NUMBERS},
        {CLAIM_NUMBERS, SUMS},
        {{LOW, -M - 1, -M, -1, 0, 4, 5, 6, 9, 10, 11, 49, 50, 51, 59, 60, 61, 70, 71, 72, M, M + 1, HIGH}},
        {},
    };

    private static final int[][] TERMS = {
        {Calls.SET_PRICE, 1000, 100, 20},
        {Calls.SET_PART, 0, 200, 3}, {Calls.SET_PART, 1, 100, 5}, {Calls.SET_PART, 2, 50, 5},
        {Calls.SET_PART, 3, 30, 9},
        {Calls.SET_KIND, 0, 10, 50, 120, 4, 0}, {Calls.SET_KIND, 1, 0, 30, 1000, 6, 1},
        {Calls.SET_KIND, 2, 5, 0, 40, 2, 0},
        {Calls.SET_YEAR, 0, 50, 70}, {Calls.SET_YEAR, 1, 60, 80}, {Calls.SET_YEAR, 2, 10, 30},
        {Calls.SET_YEAR, 3, 5, 6},
        {Calls.SET_CARRY, 1},
    };
    private static final int[][] CLOSED = and(TERMS, new int[][] {{Calls.CLOSE, 100, 50, 75}});
    private static final int[][] CLAIMED = and(CLOSED, new int[][] {
        {Calls.CLAIM, 0, 60}, {Calls.OFFER, 0, 40}, {Calls.CLAIM, 1, 150},
        {Calls.CLAIM, 2, 30}, {Calls.DECIDE, 2, 20}, {Calls.CLAIM, 1, 20}, {Calls.OFFER, 3, 20}, {Calls.AGREE, 3},
    });
    private static final int[][] OUTSTANDING = and(CLOSED, new int[][] {
        {Calls.CLAIM, 1, 440}, {Calls.DECIDE, 0, 440}, {Calls.CLAIM, 1, 41}, {Calls.OFFER, 1, 20},
        {Calls.CLAIM, 1, 1}, {Calls.REPORT, 49},
    });

    public static void main(String[] args) {
        states("a new object", new int[][] {});
        states("with terms", TERMS);
        states("closed without terms", new int[][] {{Calls.CLOSE, 0, 0, 0}});
        states("closed", CLOSED);
        states("with claims", CLAIMED);
        states("on day 2", and(CLAIMED, new int[][] {{Calls.ADVANCE, 2}}));
        states("on day 4", and(CLAIMED, new int[][] {{Calls.ADVANCE, 4}}));
        states("on day 7", and(CLAIMED, new int[][] {{Calls.ADVANCE, 7}}));
        states("on day 3600", and(CLAIMED, days(3600)));
        states("on day 3601", and(CLAIMED, days(3601)));
        states("on day 3999", and(CLAIMED, days(3999)));
        states("on day 4000", and(CLAIMED, days(4000)));
        states("with something outstanding", OUTSTANDING);
        states("with something outstanding, misses not carried", notCarried(OUTSTANDING));
        states("with 19 claims", and(CLOSED, claims(19)));
        states("with 20 claims", and(CLOSED, claims(20)));
        states("with the years 0 to 2 told", and(CLAIMED, results(49, 61, 9)));
        states("with all years told", and(CLAIMED, results(49, 60, 10, 5)));
        states("sped up", and(CLAIMED, new int[][] {{Calls.REPORT, 49}, {Calls.SPEED_UP}}));
        Check.end("GridTest");
    }

    private static int[][] and(int[][] first, int[][] then) {
        int[][] all = java.util.Arrays.copyOf(first, first.length + then.length);
        System.arraycopy(then, 0, all, first.length, then.length);
        return all;
    }

    private static int[][] days(int days) {
        int[][] steps = new int[(days + 399) / 400][];
        int left = days;
        for (int i = 0; i < steps.length; i++) {
            steps[i] = new int[] {Calls.ADVANCE, Math.min(left, 400)};
            left -= steps[i][1];
        }
        return steps;
    }

    private static int[][] claims(int count) {
        int[][] steps = new int[count][];
        for (int i = 0; i < count; i++) {
            steps[i] = new int[] {Calls.CLAIM, i % 3, 20 + i};
        }
        return steps;
    }

    private static int[][] results(int... results) {
        int[][] steps = new int[results.length][];
        for (int i = 0; i < results.length; i++) {
            steps[i] = new int[] {Calls.REPORT, results[i]};
        }
        return steps;
    }

    private static int[][] notCarried(int[][] steps) {
        int[][] all = steps.clone();
        all[TERMS.length - 1] = new int[] {Calls.SET_CARRY, 0};
        return all;
    }

    private static void states(String state, int[][] steps) {
        for (int call = 0; call < Calls.COUNT; call++) {
            int combinations = 1;
            for (int[] values : TRIED[call]) {
                combinations *= values.length;
            }
            for (int i = 0; i < combinations; i++) {
                agree(state, steps, call, combination(TRIED[call], i), i % Twin.WAYS);
            }
        }
    }

    private static int[] combination(int[][] tried, int number) {
        int[] a = new int[tried.length];
        int rest = number;
        for (int k = 0; k < tried.length; k++) {
            a[k] = tried[k][rest % tried[k].length];
            rest /= tried[k].length;
        }
        return a;
    }

    private static void agree(String state, int[][] steps, int call, int[] a, int way) {
        Calls.Side box = Calls.side(new PegBox());
        Calls.Side model = Calls.side(new Model());
        for (int[] step : steps) {
            int[] arguments = java.util.Arrays.copyOfRange(step, 1, step.length);
            box.answer(step[0], arguments);
            model.answer(step[0], arguments);
        }
        String what = state + ", " + Calls.text(call, a);
        Check.same(what, box.answer(call, a) + " / " + box.all(), model.answer(call, a) + " / " + model.all());
        Check.same(what + ", then", Twin.life(box, way), Twin.life(model, way));
    }
}
