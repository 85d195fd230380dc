import java.util.Random;

/** Promise 15 (sum). */
public final class SumTest {
    private static final double INF = Double.POSITIVE_INFINITY;

    public static void main(String[] args) {
        plainOnes();
        ofOne();
        waysDiffer();
        halvesAreCutOff();
        infiniteOnes();
        anySums();
        wrongInputs();
        Checks.end();
    }

    private static void sumsAre(ReckonBench bench, int row, long plain, long carried, long halved) {
        long[] wanted = {plain, carried, halved};
        for (int way = 0; way < 3; way++) {
            Checks.due("15: row " + row + ", way " + way, bench.sum(row, way), wanted[way]);
            Checks.due("15: status behind it", bench.status(), 0);
        }
    }

    private static void same(double want, double... numbers) {
        ReckonBench bench = Checks.with(numbers);
        sumsAre(bench, 0, Checks.d(want), Checks.d(want), Checks.d(want));
        float single = (float) want;
        sumsAre(bench, 1, Checks.s(single), Checks.s(single), Checks.s(single));
        for (int i = 0; i < numbers.length; i++) {
            Checks.due("15: nothing changes", bench.get(0, i), Checks.d(numbers[i]));
        }
    }

    private static void plainOnes() {
        same(6, 1, 2, 3);
        same(0.0, 1, -1);
        same(0.0, 0.0, -0.0);
        same(10, 1, 2, 3, 4);
        same(-2.5, 1, -5, 1.5);
        same(Double.NaN, 1, Double.NaN, 2);
    }

    private static void ofOne() {
        same(7, 7);
        same(0.0, 0.0);
        long minus = Checks.MINUS;
        sumsAre(Checks.with(-0.0), 0, 0, 0, minus);
        sumsAre(Checks.with(-0.0), 1, 0, 0, Checks.MINUS_S);
        sumsAre(Checks.with(-0.0, -0.0), 0, 0, 0, minus);
        sumsAre(Checks.with(INF), 0, Checks.INF, Checks.INF, Checks.INF);
    }

    private static void waysDiffer() {
        double ulp = 0x1p-52;
        ReckonBench bench = Checks.with(1, ulp / 2, ulp / 2, ulp / 2, ulp / 2);
        // Plainly all is lost; carried nothing is; halved (1 + u) + (u + (u + u)).
        sumsAre(bench, 0, Checks.d(1), Checks.d(1 + 2 * ulp), Checks.d(1 + 2 * ulp));
        bench = Checks.with(16777216, 1, 1, 1, -16777216);
        sumsAre(bench, 1, Checks.s(0f), Checks.s(4f), Checks.s(2f));
        bench = Checks.with(1, 1e100, 1, -1e100);
        sumsAre(bench, 0, Checks.d(0), Checks.d(0), Checks.d(0));
    }

    /** Of three the first stands alone: 1 + (u + u); cut off the other way it would be (1 + u) + u. */
    private static void halvesAreCutOff() {
        double half = 0x1p-53;
        Checks.due("15: of three", Checks.with(1, half, half).sum(0, 2), Checks.d(1 + 2 * half));
        Checks.due("15: of three", Checks.with(half, half, 1).sum(0, 2), Checks.d(1));
        float single = 0x1p-24f;
        Checks.due("15: of three", Checks.with(1, single, single).sum(1, 2), Checks.s(1 + 2 * single));
        Checks.due("15: of three", Checks.with(single, single, 1).sum(1, 2), Checks.s(1));
    }

    private static void infiniteOnes() {
        sumsAre(Checks.with(INF, 1), 0, Checks.INF, Checks.NAN, Checks.INF);
        sumsAre(Checks.with(1, INF), 0, Checks.INF, Checks.INF, Checks.INF);
        sumsAre(Checks.with(INF, -INF), 1, Checks.NAN_S, Checks.NAN_S, Checks.NAN_S);
        sumsAre(Checks.with(Double.MAX_VALUE, Double.MAX_VALUE), 0, Checks.INF, Checks.INF, Checks.INF);
    }

    private static void anySums() {
        Random random = new Random(15);
        for (int round = 0; round < 6000; round++) {
            int n = round % 50 == 0 ? 400 + random.nextInt(100) : 1 + random.nextInt(30);
            boolean single = random.nextBoolean();
            boolean tame = random.nextInt(4) != 0;
            ReckonBench bench = new ReckonBench();
            Model model = new Model();
            bench.row(n, single);
            model.row(n, single);
            for (int i = 0; i < n; i++) {
                double x = random.nextGaussian() * Math.scalb(1.0, random.nextInt(40));
                long bits = !tame ? Checks.someBits(random, single, false)
                        : single ? Checks.s((float) x) : Checks.d(x);
                bench.set(0, i, bits);
                model.set(0, i, bits);
            }
            for (int way = 0; way < 3; way++) {
                Checks.due("15: of " + n + ", way " + way, bench.sum(0, way), model.sum(0, way));
            }
        }
    }

    private static void wrongInputs() {
        ReckonBench bench = Checks.with(1, 2);
        int[] rows = {-1, 2, Integer.MIN_VALUE, Integer.MAX_VALUE};
        for (int row : rows) {
            Checks.refused("15: row " + row, bench, bench.sum(row, 3), 0, 1);
        }
        int[] ways = {-1, 3, Integer.MIN_VALUE, Integer.MAX_VALUE};
        for (int way : ways) {
            Checks.refused("15: way " + way, bench, bench.sum(0, way), 0, 2);
        }
    }
}
