import java.util.Random;

/** Promise 11 (act). */
public final class ActTest {
    private static final double INF = Double.POSITIVE_INFINITY;
    private static final double NAN = Double.NaN;
    private static final double LEAST = Double.MIN_VALUE;
    private static final double MOST = Double.MAX_VALUE;

    private static ReckonBench bench;
    private static int calls = 512;

    public static void main(String[] args) {
        signs();
        chosen();
        wholes();
        sums();
        products();
        quotients();
        remainders();
        roundings();
        productsNearTies();
        quotientsNearTies();
        singles();
        places();
        anyDoubles();
        anySingles();
        wrongInputs();
        Checks.end();
    }

    /** Row 0 of doubles and row 1 of singles, on a new object whenever the one before is used up. */
    private static void makeRoom(int wanted) {
        if (calls + wanted > 512) {
            bench = new ReckonBench();
            bench.row(3, false);
            bench.row(3, true);
            calls = 2;
        }
        calls += wanted;
    }

    private static void onDoubles(int what, double x, double y, double want) {
        makeRoom(5);
        bench.set(0, 0, Checks.d(x));
        bench.set(0, 1, Checks.d(y));
        String told = "11: act " + what + " of " + x + ", " + y;
        Checks.due(told + ": sort", bench.act(0, what, 0, 1, 2), sort(want));
        Checks.due(told + ": bits", bench.get(0, 2), Checks.d(want));
        Checks.due(told + ": status", bench.status(), 0);
    }

    private static void onSingles(int what, float x, float y, float want) {
        makeRoom(5);
        bench.set(1, 0, Checks.s(x));
        bench.set(1, 1, Checks.s(y));
        String told = "11: single act " + what + " of " + x + ", " + y;
        Checks.due(told + ": sort", bench.act(1, what, 0, 1, 2), sort(want));
        Checks.due(told + ": bits", bench.get(1, 2), Checks.s(want));
        Checks.due(told + ": status", bench.status(), 0);
    }

    /** For numbers that both kinds have, and results that both have. */
    private static void both(int what, double x, double y, double want) {
        onDoubles(what, x, y, want);
        onSingles(what, (float) x, (float) y, (float) want);
    }

    private static int sort(double x) {
        if (Double.isNaN(x)) {
            return 3;
        }
        int plain = x == 0 ? 0 : Double.isInfinite(x) ? 2 : 1;
        return Math.copySign(1, x) < 0 ? plain + 4 : plain;
    }

    private static void signs() {
        double[] tried = {0.0, 1, 2.5, INF};
        for (double x : tried) {
            both(0, x, NAN, x);
            both(0, -x, NAN, x);
            both(6, x, NAN, x == 0 ? 0.0 : 1);
            both(6, -x, NAN, x == 0 ? -0.0 : -1);
            both(13, x, NAN, -x);
            both(13, -x, NAN, x);
            both(7, x, 3, x);
            both(7, x, -3, -x);
            both(7, -x, 0.0, x);
            both(7, x, -0.0, -x);
            both(7, -x, -INF, -x);
            both(7, x, NAN, NAN);
            both(7, NAN, -x, NAN);
        }
        both(0, NAN, 1, NAN);
        both(6, NAN, 1, NAN);
        both(13, NAN, 1, NAN);
        onDoubles(6, LEAST, 0, 1);
        onDoubles(6, -LEAST, 0, -1);
    }

    private static void chosen() {
        both(1, 1, 2, 2);
        both(1, 2, 1, 2);
        both(2, 1, 2, 1);
        both(2, 2, 1, 1);
        both(1, -1, -2, -1);
        both(2, -1, -2, -2);
        both(1, 0.0, -0.0, 0.0);
        both(1, -0.0, 0.0, 0.0);
        both(2, 0.0, -0.0, -0.0);
        both(2, -0.0, 0.0, -0.0);
        both(1, -0.0, -0.0, -0.0);
        both(2, 0.0, 0.0, 0.0);
        both(1, -INF, 4, 4);
        both(2, INF, 4, 4);
        both(1, NAN, 4, NAN);
        both(1, 4, NAN, NAN);
        both(2, NAN, 4, NAN);
        both(2, INF, NAN, NAN);
    }

    private static void wholes() {
        double[][] table = {
            // x, not above, not below, nearest
            {0.0, 0.0, 0.0, 0.0}, {0.25, 0.0, 1, 0.0}, {0.5, 0.0, 1, 0.0}, {0.75, 0.0, 1, 1},
            {1, 1, 1, 1}, {1.5, 1, 2, 2}, {2.5, 2, 3, 2}, {2.75, 2, 3, 3}, {3.5, 3, 4, 4},
            {INF, INF, INF, INF}, {4194303.5, 4194303, 4194304, 4194304}, {8388608, 8388608, 8388608, 8388608},
        };
        for (double[] row : table) {
            both(3, row[0], NAN, row[1]);
            both(4, row[0], NAN, row[2]);
            both(5, row[0], NAN, row[3]);
            both(3, -row[0], NAN, -row[2]);
            both(4, -row[0], NAN, -row[1]);
            both(5, -row[0], NAN, -row[3]);
        }
        for (int what = 3; what <= 5; what++) {
            both(what, NAN, 1, NAN);
            onDoubles(what, MOST, 1, MOST);
            onDoubles(what, -MOST, 1, -MOST);
        }
        onDoubles(3, -LEAST, 0, -1);
        onDoubles(4, LEAST, 0, 1);
        onDoubles(4, -LEAST, 0, -0.0);
        onDoubles(5, LEAST, 0, 0.0);
        onDoubles(5, Math.nextDown(0.5), 0, 0.0);
        onDoubles(5, Math.nextUp(0.5), 0, 1);
        onDoubles(5, 4503599627370495.5, 0, 4503599627370496.0);
        onDoubles(3, 4503599627370495.5, 0, 4503599627370495.0);
    }

    private static void sums() {
        both(8, 1, 2, 3);
        both(8, 1, -1, 0.0);
        both(8, -1, 1, 0.0);
        both(8, 0.0, 0.0, 0.0);
        both(8, 0.0, -0.0, 0.0);
        both(8, -0.0, 0.0, 0.0);
        both(8, -0.0, -0.0, -0.0);
        both(8, -0.0, 5, 5);
        both(8, -5, 0.0, -5);
        both(8, INF, 1, INF);
        both(8, 1, -INF, -INF);
        both(8, INF, INF, INF);
        both(8, -INF, -INF, -INF);
        both(8, INF, -INF, NAN);
        both(8, -INF, INF, NAN);
        both(8, NAN, 1, NAN);
        both(8, INF, NAN, NAN);
        both(9, 3, 2, 1);
        both(9, 1, 1, 0.0);
        both(9, 0.0, 0.0, 0.0);
        both(9, -0.0, 0.0, -0.0);
        both(9, 0.0, -0.0, 0.0);
        both(9, -0.0, -0.0, 0.0);
        both(9, INF, INF, NAN);
        both(9, INF, -INF, INF);
        both(9, 1, INF, -INF);
        both(9, NAN, NAN, NAN);
        onDoubles(8, 0.1, 0.2, 0.30000000000000004);
        onDoubles(8, MOST, MOST, INF);
        onDoubles(9, -MOST, MOST, -INF);
        onDoubles(8, LEAST, LEAST, 2 * LEAST);
        onDoubles(9, Double.MIN_NORMAL, LEAST, Double.MIN_NORMAL - LEAST);
    }

    private static void products() {
        both(10, 3, 4, 12);
        both(10, -3, 4, -12);
        both(10, -3, -4, 12);
        both(10, 0.0, -4, -0.0);
        both(10, -0.0, -0.0, 0.0);
        both(10, INF, -2, -INF);
        both(10, -INF, -INF, INF);
        both(10, -2, INF, -INF);
        both(10, 0.0, INF, NAN);
        both(10, -INF, -0.0, NAN);
        both(10, NAN, 0.0, NAN);
        both(10, 1, NAN, NAN);
        onDoubles(10, 0.1, 0.1, 0.010000000000000002);
        onDoubles(10, 1e200, 1e200, INF);
        onDoubles(10, 1e200, -1e200, -INF);
        onDoubles(10, LEAST, 0.5, 0.0);
        onDoubles(10, LEAST, -0.5, -0.0);
        onDoubles(10, LEAST, Math.nextUp(0.5), LEAST);
        onDoubles(10, 3 * LEAST, 0.5, 2 * LEAST);
        onDoubles(10, LEAST, MOST, LEAST * MOST);
    }

    private static void quotients() {
        both(11, 12, 4, 3);
        both(11, -12, 4, -3);
        both(11, 1, -0.0, -INF);
        both(11, -1, -0.0, INF);
        both(11, INF, 0.0, INF);
        both(11, INF, -0.0, -INF);
        both(11, 0.0, 0.0, NAN);
        both(11, 0.0, -0.0, NAN);
        both(11, 0.0, -5, -0.0);
        both(11, -5, INF, -0.0);
        both(11, 5, INF, 0.0);
        both(11, INF, -5, -INF);
        both(11, INF, INF, NAN);
        both(11, -INF, INF, NAN);
        both(11, NAN, 1, NAN);
        both(11, 0.0, NAN, NAN);
        onDoubles(11, 1, 3, 0.3333333333333333);
        onDoubles(11, 2, 3, 0.6666666666666666);
        onDoubles(11, MOST, 0.5, INF);
        onDoubles(11, LEAST, 2, 0.0);
        onDoubles(11, -LEAST, 2, -0.0);
        onDoubles(11, 3 * LEAST, 2, 2 * LEAST);
        onDoubles(11, MOST, LEAST, INF);
        onDoubles(11, LEAST, MOST, 0.0);
    }

    private static void remainders() {
        both(12, 7, 3, 1);
        both(12, -7, 3, -1);
        both(12, 7, -3, 1);
        both(12, 6, 3, 0.0);
        both(12, -6, 3, -0.0);
        both(12, 5.5, 2, 1.5);
        both(12, 2, 5, 2);
        both(12, 0.0, 5, 0.0);
        both(12, -0.0, 5, -0.0);
        both(12, 5, INF, 5);
        both(12, -5, -INF, -5);
        both(12, -0.0, INF, -0.0);
        both(12, INF, 5, NAN);
        both(12, INF, INF, NAN);
        both(12, 5, 0.0, NAN);
        both(12, 0.0, -0.0, NAN);
        both(12, NAN, 5, NAN);
        both(12, 5, NAN, NAN);
        onDoubles(12, 1e300, 7, 1);
        onDoubles(12, -1e308, 7, -3);
        onDoubles(12, MOST, LEAST, 0.0);
        onDoubles(12, MOST, 3 * LEAST, MOST % (3 * LEAST));
        onDoubles(12, -1, 0.1, -0.09999999999999995);
    }

    private static void roundings() {
        double one = 1;
        double ulp = 0x1p-52;
        onDoubles(8, one, ulp / 2, one);
        onDoubles(8, one + ulp, ulp / 2, one + 2 * ulp);
        onDoubles(8, one, Math.nextUp(ulp / 2), one + ulp);
        onDoubles(9, one, ulp / 4, one);
        onDoubles(9, one, Math.nextUp(ulp / 4), one - ulp / 2);
        onDoubles(8, one, LEAST, one);
        onDoubles(9, one, LEAST, one);
        onDoubles(8, MOST, 0x1p970, INF);
        onDoubles(8, MOST, Math.nextDown(0x1p970), MOST);
    }

    /** The inverse of an odd number, as to its last bits. */
    private static long inverse(long odd) {
        long inverse = odd;
        for (int round = 0; round < 6; round++) {
            inverse *= 2 - odd * inverse;
        }
        return inverse;
    }

    /** Products that end in just a half of the last bit kept, or a single bit, of any place, beside it. */
    private static void productsNearTies() {
        Random random = new Random(10);
        long top = 1L << 52;
        for (int round = 0; round < 40; round++) {
            for (int place = 0; place < 51; place++) {
                for (int side = -1; side <= 1; side++) {
                    for (int half = 51; half <= 52; half++) {
                        long x = top | random.nextLong() & top - 1 | 1;
                        long end = (1L << half) + side * (1L << place);
                        long y = top | end * inverse(x) & top - 1;
                        double xs = Math.scalb((double) x, -52);
                        double ys = Math.scalb((double) y, random.nextInt(100) - 50);
                        onDoubles(10, xs, ys, xs * ys);
                        singleNearTie(random, place, side, half);
                    }
                }
            }
        }
    }

    private static void singleNearTie(Random random, int place, int side, int half) {
        long top = 1L << 23;
        long x = top | random.nextLong() & top - 1 | 1;
        long end = (1L << half - 29) + side * (1L << place * 22 / 51);
        long y = top | end * inverse(x) & top - 1;
        float xs = Math.scalb((float) x, -23);
        float ys = Math.scalb((float) y, random.nextInt(60) - 30);
        onSingles(10, xs, ys, xs * ys);
    }

    /**
     * Quotients that come next to zero, where few bits are kept, and are less than the half of the last
     * bit, or more, by as little as can be.
     */
    private static void quotientsNearTies() {
        Random random = new Random(11);
        for (int round = 0; round < 60; round++) {
            for (int kept = 3; kept < 51; kept++) {
                for (int side = -1; side <= 1; side += 2) {
                    long tie = 1L << kept | random.nextLong() & (1L << kept) - 1 | 1;
                    // y * tie is side, as to its last bits; so x / y and tie / 2^kept are all but alike.
                    long y = side * inverse(tie) & (1L << kept) - 1;
                    y |= 1L << 51 | (random.nextLong() & (1L << 51) - 1) >>> kept << kept;
                    long x = java.math.BigInteger.valueOf(y).multiply(java.math.BigInteger.valueOf(tie))
                            .subtract(java.math.BigInteger.valueOf(side)).shiftRight(kept).longValueExact();
                    double xs = Math.scalb((double) x, kept - 1075 + 150 - 51);
                    double ys = Math.scalb((double) y, 150 - 51);
                    long want = (tie >>> 1) + (side < 0 ? 1 : 0);
                    onDoubles(11, xs, ys, Checks.toDouble(want));
                }
            }
        }
    }

    private static void singles() {
        onSingles(8, 0.1f, 0.2f, 0.3f);
        onSingles(8, 16777216f, 1f, 16777216f);
        onSingles(8, 16777216f, 3f, 16777220f);
        onSingles(8, Float.MAX_VALUE, Float.MAX_VALUE, Float.POSITIVE_INFINITY);
        onSingles(10, 1e30f, 1e30f, Float.POSITIVE_INFINITY);
        onSingles(10, Float.MIN_VALUE, 0.5f, 0f);
        onSingles(10, Float.MIN_VALUE, -0.75f, -Float.MIN_VALUE);
        onSingles(11, 1f, 3f, 0.33333334f);
        onSingles(11, Float.MIN_VALUE, -2f, -0f);
        onSingles(12, Float.MAX_VALUE, 7f, Float.MAX_VALUE % 7f);
        onSingles(12, 1f, 0.1f, 1f % 0.1f);
        onSingles(3, -Float.MIN_VALUE, 0f, -1f);
        onSingles(5, 8388607.5f, 0f, 8388608f);
    }

    private static void places() {
        ReckonBench fresh = new ReckonBench();
        fresh.row(2, false);
        fresh.whole(0, 0, 5);
        fresh.whole(0, 1, 3);
        Checks.due("11: k is i", fresh.act(0, 9, 0, 1, 0), 1);
        Checks.due("11: 5 - 3", fresh.get(0, 0), Checks.d(2));
        Checks.due("11: k is j", fresh.act(0, 11, 1, 0, 0), 1);
        Checks.due("11: 3 / 2", fresh.get(0, 0), Checks.d(1.5));
        Checks.due("11: one place alone", fresh.act(0, 10, 0, 0, 0), 1);
        Checks.due("11: 1.5 * 1.5", fresh.get(0, 0), Checks.d(2.25));
        Checks.due("11: y stays", fresh.get(0, 1), Checks.d(3));
    }

    private static void anyDoubles() {
        Random random = new Random(11);
        for (int i = 0; i < 150000; i++) {
            double x = Checks.someDouble(random);
            double y = random.nextInt(6) == 0 ? near(random, x) : Checks.someDouble(random);
            onDoubles(8, x, y, x + y);
            onDoubles(9, x, y, x - y);
            onDoubles(10, x, y, x * y);
            onDoubles(11, x, y, x / y);
            onDoubles(12, x, y, x % y);
            onDoubles(3, x, y, Math.floor(x));
            onDoubles(4, x, y, Math.ceil(x));
            onDoubles(5, x, y, Math.rint(x));
            onDoubles(1, x, y, Math.max(x, y));
            onDoubles(2, x, y, Math.min(x, y));
        }
    }

    private static void anySingles() {
        Random random = new Random(1111);
        for (int i = 0; i < 150000; i++) {
            float x = Checks.someSingle(random);
            float y = random.nextInt(6) == 0 ? (float) near(random, x) : Checks.someSingle(random);
            onSingles(8, x, y, x + y);
            onSingles(9, x, y, x - y);
            onSingles(10, x, y, x * y);
            onSingles(11, x, y, x / y);
            onSingles(12, x, y, x % y);
            onSingles(3, x, y, (float) Math.floor(x));
            onSingles(4, x, y, (float) Math.ceil(x));
            onSingles(5, x, y, (float) Math.rint(x));
            onSingles(1, x, y, Math.max(x, y));
            onSingles(2, x, y, Math.min(x, y));
        }
    }

    /** A number whose sum or difference with x leaves little, or is just at the edge of its last bit. */
    private static double near(Random random, double x) {
        switch (random.nextInt(4)) {
            case 0: return Math.nextUp(-x);
            case 1: return -x * (1 + 0x1p-20 * random.nextInt(5));
            case 2: return Math.ulp(x) / 2;
            default: return -Math.ulp(x) / 4 * (1 + 0x1p-30 * random.nextInt(3));
        }
    }

    private static void wrongInputs() {
        ReckonBench fresh = new ReckonBench();
        fresh.row(3, false);
        fresh.row(2, true);
        int[] rows = {-1, 2, Integer.MIN_VALUE, Integer.MAX_VALUE};
        for (int row : rows) {
            Checks.refused("11: row " + row, fresh, fresh.act(row, 14, 9, 0, 0), -9, 1);
        }
        int[] whats = {-1, 14, Integer.MIN_VALUE, Integer.MAX_VALUE};
        for (int what : whats) {
            Checks.refused("11: what " + what, fresh, fresh.act(0, what, 0, 0, 0), -9, 2);
        }
        int[] places = {-1, 2, 3, Integer.MIN_VALUE, Integer.MAX_VALUE};
        for (int i : places) {
            Checks.refused("11: i " + i, fresh, fresh.act(1, 8, i, 0, 0), -9, 2);
            Checks.refused("11: j " + i, fresh, fresh.act(1, 8, 0, i, 0), -9, 2);
            Checks.refused("11: j " + i + " that is not named", fresh, fresh.act(1, 13, 0, i, 0), -9, 2);
            Checks.refused("11: k " + i, fresh, fresh.act(1, 8, 0, 0, i), -9, 2);
        }
        Checks.due("11: refusals change nothing", fresh.get(1, 0), 0);
        Checks.due("11: the last place", fresh.act(0, 13, 2, 2, 2), 4);
    }
}
