import java.util.Random;

/** Promise 17 (interval). */
public final class IntervalTest {
    private static final double INF = Double.POSITIVE_INFINITY;
    private static final double NAN = Double.NaN;
    private static final double LEAST = Double.MIN_VALUE;
    private static final double MOST = Double.MAX_VALUE;

    public static void main(String[] args) {
        sumsAndDifferences();
        products();
        quotients();
        aroundAndCommon();
        noIntervals();
        singles();
        sameAndOtherPairs();
        anyIntervals();
        wrongInputs();
        Checks.end();
    }

    /** Pair 1 of doubles is A, pair 0 is B; pair 2 stays. */
    private static void becomes(int what, double[] a, double[] b, int answer, double low, double high) {
        ReckonBench bench = new ReckonBench();
        bench.row(7, false);
        bench.set(0, 2, Checks.d(a[0]));
        bench.set(0, 3, Checks.d(a[1]));
        bench.set(0, 0, Checks.d(b[0]));
        bench.set(0, 1, Checks.d(b[1]));
        String told = "17: what " + what + " of " + a[0] + ".." + a[1] + " and " + b[0] + ".." + b[1];
        Checks.due(told, bench.interval(0, 1, 0, what), answer);
        Checks.due(told + ": status", bench.status(), 0);
        Checks.due(told + ": low", bench.get(0, 2), Checks.d(low));
        Checks.due(told + ": high", bench.get(0, 3), Checks.d(high));
        Checks.due(told + ": B's low", bench.get(0, 0), Checks.d(b[0]));
        Checks.due(told + ": B's high", bench.get(0, 1), Checks.d(b[1]));
        for (int i = 4; i < 7; i++) {
            Checks.due(told + ": another place", bench.get(0, i), 0);
        }
    }

    private static double[] pair(double low, double high) {
        return new double[] {low, high};
    }

    private static double up(double x) {
        return Math.nextUp(x);
    }

    private static double down(double x) {
        return Math.nextDown(x);
    }

    private static void sumsAndDifferences() {
        becomes(0, pair(1, 2), pair(3, 5), 0, down(4), up(7));
        becomes(1, pair(1, 2), pair(3, 5), 0, down(-4), up(-1));
        becomes(0, pair(0, 0), pair(0, 0), 0, -LEAST, LEAST);
        becomes(0, pair(-0.0, -0.0), pair(-0.0, -0.0), 0, -LEAST, LEAST);
        becomes(0, pair(LEAST, 0 + LEAST), pair(0, 0), 0, 0.0, 2 * LEAST);
        becomes(0, pair(-LEAST, -LEAST), pair(0, 0), 0, -2 * LEAST, -0.0);
        becomes(0, pair(-INF, 1), pair(1, INF), 0, -INF, INF);
        becomes(0, pair(INF, INF), pair(1, 2), 0, MOST, INF);
        becomes(0, pair(-INF, -INF), pair(1, 2), 0, -INF, -MOST);
        becomes(0, pair(INF, INF), pair(-INF, -INF), 0, -INF, INF);
        becomes(0, pair(-INF, INF), pair(INF, INF), 0, -INF, INF);
        becomes(1, pair(INF, INF), pair(INF, INF), 0, -INF, INF);
        becomes(1, pair(-INF, 3), pair(-INF, 4), 0, -INF, INF);
        becomes(0, pair(MOST, MOST), pair(MOST, MOST), 0, MOST, INF);
        becomes(1, pair(0, 0.0), pair(-0.0, 0), 0, -LEAST, LEAST);
    }

    private static void products() {
        becomes(2, pair(2, 3), pair(5, 7), 0, down(10), up(21));
        becomes(2, pair(-2, 3), pair(5, 7), 0, down(-14), up(21));
        becomes(2, pair(-2, 3), pair(-5, 7), 0, down(-15), up(21));
        becomes(2, pair(-3, -2), pair(-5, 7), 0, down(-21), up(15));
        becomes(2, pair(-3, -2), pair(-7, -5), 0, down(10), up(21));
        becomes(2, pair(0, 1), pair(1, INF), 0, -LEAST, INF);
        becomes(2, pair(0, 0), pair(-INF, INF), 0, -LEAST, LEAST);
        becomes(2, pair(0, 0), pair(INF, INF), 0, -LEAST, LEAST);
        becomes(2, pair(-0.0, 0), pair(3, 4), 0, -LEAST, LEAST);
        becomes(2, pair(INF, INF), pair(1, 2), 0, MOST, INF);
        becomes(2, pair(-INF, INF), pair(0, 2), 0, -INF, INF);
        becomes(2, pair(1e200, 1e200), pair(1e200, 1e200), 0, MOST, INF);
        becomes(2, pair(LEAST, LEAST), pair(0.25, 0.5), 0, -LEAST, LEAST);
    }

    private static void quotients() {
        becomes(3, pair(1, 2), pair(4, 8), 0, down(0.125), up(0.5));
        becomes(3, pair(-1, 2), pair(4, 8), 0, down(-0.25), up(0.5));
        becomes(3, pair(1, 2), pair(-8, -4), 0, down(-0.5), up(-0.125));
        becomes(3, pair(1, 2), pair(-1, 1), 1, -INF, INF);
        becomes(3, pair(1, 2), pair(0, 1), 1, -INF, INF);
        becomes(3, pair(1, 2), pair(-1, -0.0), 1, -INF, INF);
        becomes(3, pair(1, 2), pair(-0.0, 1), 1, -INF, INF);
        becomes(3, pair(1, 2), pair(-1, 0), 1, -INF, INF);
        becomes(3, pair(1, 2), pair(LEAST, LEAST), 0, MOST, INF);
        becomes(3, pair(1, INF), pair(1, INF), 0, -LEAST, INF);
        becomes(3, pair(INF, INF), pair(INF, INF), 0, -LEAST, LEAST);
        becomes(3, pair(0, 0), pair(1, INF), 0, -LEAST, LEAST);
        becomes(3, pair(1, 1), pair(3, 3), 0, down(1.0 / 3), up(1.0 / 3));
    }

    private static void aroundAndCommon() {
        becomes(4, pair(1, 2), pair(-3, 5), 0, -3, 5);
        becomes(4, pair(1, 2), pair(4, 5), 0, 1, 5);
        becomes(4, pair(0.0, -0.0), pair(-0.0, 0.0), 0, -0.0, 0.0);
        becomes(4, pair(-INF, 0), pair(1, INF), 0, -INF, INF);
        becomes(5, pair(1, 4), pair(-3, 2), 0, 1, 2);
        becomes(5, pair(1, 4), pair(2, 3), 0, 2, 3);
        becomes(5, pair(1, 2), pair(2, 3), 0, 2, 2);
        becomes(5, pair(1, 2), pair(3, 4), 2, NAN, NAN);
        becomes(5, pair(3, 4), pair(1, 2), 2, NAN, NAN);
        becomes(5, pair(1, 2), pair(up(2), 4), 2, NAN, NAN);
        becomes(5, pair(-0.0, 0.0), pair(0.0, -0.0), 0, 0.0, -0.0);
        becomes(5, pair(-1, -0.0), pair(0.0, 1), 0, 0.0, -0.0);
        becomes(5, pair(-INF, INF), pair(INF, INF), 0, INF, INF);
    }

    private static void noIntervals() {
        for (int what = 0; what < 6; what++) {
            becomes(what, pair(2, 1), pair(3, 4), 1, -INF, INF);
            becomes(what, pair(1, 2), pair(4, 3), 1, -INF, INF);
            becomes(what, pair(NAN, 2), pair(3, 4), 1, -INF, INF);
            becomes(what, pair(1, NAN), pair(3, 4), 1, -INF, INF);
            becomes(what, pair(1, 2), pair(NAN, 4), 1, -INF, INF);
            becomes(what, pair(1, 2), pair(3, NAN), 1, -INF, INF);
            becomes(what, pair(NAN, NAN), pair(NAN, NAN), 1, -INF, INF);
            becomes(what, pair(INF, -INF), pair(3, 4), 1, -INF, INF);
        }
    }

    private static void single(int what, float lowA, float highA, float lowB, float highB,
            float low, float high) {
        ReckonBench bench = new ReckonBench();
        bench.row(4, true);
        float[] numbers = {lowA, highA, lowB, highB};
        for (int i = 0; i < 4; i++) {
            bench.set(0, i, Checks.s(numbers[i]));
        }
        Checks.due("17: singles, what " + what, bench.interval(0, 0, 1, what), 0);
        Checks.due("17: singles, low of what " + what, bench.get(0, 0), Checks.s(low));
        Checks.due("17: singles, high of what " + what, bench.get(0, 1), Checks.s(high));
    }

    private static void singles() {
        single(0, 1, 2, 3, 5, Math.nextDown(4f), Math.nextUp(7f));
        single(1, 1, 2, 3, 5, Math.nextDown(-4f), Math.nextUp(-1f));
        single(2, -2, 3, 5, 7, Math.nextDown(-14f), Math.nextUp(21f));
        single(3, 1, 2, 4, 8, Math.nextDown(0.125f), Math.nextUp(0.5f));
        single(4, 1, 2, 4, 8, 1, 8);
        single(5, 1, 5, 4, 8, 4, 5);
        single(2, 0, 0, 1, Float.POSITIVE_INFINITY, -Float.MIN_VALUE, Float.MIN_VALUE);
        single(0, Float.POSITIVE_INFINITY, Float.POSITIVE_INFINITY, 1, 1,
                Float.MAX_VALUE, Float.POSITIVE_INFINITY);
    }

    private static void sameAndOtherPairs() {
        ReckonBench bench = new ReckonBench();
        bench.row(5, false);
        bench.whole(0, 2, 1);
        bench.whole(0, 3, 2);
        Checks.due("17: a pair with itself", bench.interval(0, 1, 1, 0), 0);
        Checks.due("17: low", bench.get(0, 2), Checks.d(down(2)));
        Checks.due("17: high", bench.get(0, 3), Checks.d(up(4)));
        Checks.refused("17: half a pair", bench, bench.interval(0, 2, 1, 0), -9, 2);
        Checks.refused("17: half a pair", bench, bench.interval(0, 1, 2, 0), -9, 2);
    }

    private static void anyIntervals() {
        Random random = new Random(17);
        for (int round = 0; round < 4000; round++) {
            boolean single = random.nextBoolean();
            ReckonBench bench = new ReckonBench();
            Model model = new Model();
            bench.row(4, single);
            model.row(4, single);
            for (int i = 0; i < 60; i++) {
                for (int place = 0; place < 4; place++) {
                    long bits = Checks.someBits(random, single, false);
                    bench.set(0, place, bits);
                    model.set(0, place, bits);
                }
                int what = random.nextInt(6);
                int a = random.nextInt(2);
                String told = "17: round " + round + ", what " + what;
                Checks.due(told, bench.interval(0, a, 1 - a, what), model.interval(0, a, 1 - a, what));
                Checks.due(told + ": low", bench.get(0, 2 * a), model.get(0, 2 * a));
                Checks.due(told + ": high", bench.get(0, 2 * a + 1), model.get(0, 2 * a + 1));
            }
        }
    }

    private static void wrongInputs() {
        ReckonBench bench = new ReckonBench();
        bench.row(4, false);
        bench.row(1, true);
        int[] rows = {-1, 2, Integer.MIN_VALUE, Integer.MAX_VALUE};
        for (int row : rows) {
            Checks.refused("17: row " + row, bench, bench.interval(row, 9, 9, 9), -9, 1);
        }
        int[] pairs = {-1, 2, 1 << 30, Integer.MIN_VALUE, Integer.MAX_VALUE};
        for (int pair : pairs) {
            Checks.refused("17: a " + pair, bench, bench.interval(0, pair, 0, 0), -9, 2);
            Checks.refused("17: b " + pair, bench, bench.interval(0, 0, pair, 0), -9, 2);
        }
        int[] whats = {-1, 6, Integer.MIN_VALUE, Integer.MAX_VALUE};
        for (int what : whats) {
            Checks.refused("17: what " + what, bench, bench.interval(0, 0, 1, what), -9, 2);
        }
        Checks.refused("17: a row of one", bench, bench.interval(1, 0, 0, 0), -9, 2);
        for (int i = 0; i < 4; i++) {
            Checks.due("17: refusals change nothing", bench.get(0, i), 0);
        }
    }
}
