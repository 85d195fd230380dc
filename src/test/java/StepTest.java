import java.util.Random;

/** Promise 12 (step). */
public final class StepTest {
    public static void main(String[] args) {
        zeros();
        ends();
        farSteps();
        oneByOne();
        anySteps();
        wrongInputs();
        Checks.end();
    }

    private static ReckonBench newBench() {
        ReckonBench bench = new ReckonBench();
        bench.row(2, false);
        bench.row(2, true);
        return bench;
    }

    private static void goes(ReckonBench bench, int row, long from, int n, int went, long to) {
        String told = "12: step " + n + " from " + from + " in row " + row;
        bench.set(row, 1, from);
        Checks.due(told + ": went", bench.step(row, 1, n), went);
        Checks.due(told + ": status", bench.status(), 0);
        Checks.due(told + ": to", bench.get(row, 1), to);
    }

    private static void zeros() {
        ReckonBench bench = newBench();
        long[] minus = {Checks.MINUS, Checks.MINUS_S};
        for (int row = 0; row < 2; row++) {
            long m = minus[row];
            goes(bench, row, 0, 1, 1, 1);
            goes(bench, row, m, 1, 1, 1);
            goes(bench, row, 0, -1, 1, m | 1);
            goes(bench, row, m, -1, 1, m | 1);
            goes(bench, row, 1, -1, 1, 0);
            goes(bench, row, m | 1, 1, 1, m);
            goes(bench, row, m | 1, 2, 2, 1);
            goes(bench, row, 1, -2, 2, m | 1);
            goes(bench, row, 5, -5, 5, 0);
            goes(bench, row, m | 5, 5, 5, m);
            goes(bench, row, 0, 0, 0, 0);
            goes(bench, row, m, 0, 0, m);
            goes(bench, row, 7, 0, 0, 7);
            goes(bench, row, m | 7, 0, 0, m | 7);
        }
    }

    private static void ends() {
        ReckonBench bench = newBench();
        long[] minus = {Checks.MINUS, Checks.MINUS_S};
        long[] infinite = {Checks.INF, Checks.INF_S};
        long[] nan = {Checks.NAN, Checks.NAN_S};
        for (int row = 0; row < 2; row++) {
            long m = minus[row];
            long top = infinite[row];
            goes(bench, row, top, 1, 0, top);
            goes(bench, row, top, 1000000000, 0, top);
            goes(bench, row, m | top, -1, 0, m | top);
            goes(bench, row, m | top, -1000000000, 0, m | top);
            goes(bench, row, top, 0, 0, top);
            goes(bench, row, top, -1, 1, top - 1);
            goes(bench, row, m | top, 1, 1, m | top - 1);
            goes(bench, row, top, -3, 3, top - 3);
            goes(bench, row, top - 1, 1, 1, top);
            goes(bench, row, top - 2, 5, 2, top);
            goes(bench, row, m | top - 2, -5, 2, m | top);
            goes(bench, row, nan[row], 1, 0, nan[row]);
            goes(bench, row, nan[row], -1000000000, 0, nan[row]);
            goes(bench, row, nan[row], 0, 0, nan[row]);
        }
    }

    private static void farSteps() {
        ReckonBench bench = newBench();
        int far = 1000000000;
        goes(bench, 0, 0, far, far, far);
        goes(bench, 0, 0, -far, far, Checks.MINUS | far);
        goes(bench, 0, Checks.d(1), far, far, Checks.d(1) + far);
        goes(bench, 0, Checks.d(1), -far, far, Checks.d(1) - far);
        goes(bench, 0, Checks.d(-1), far, far, Checks.d(-1) - far);
        goes(bench, 0, Checks.d(-1), -far, far, Checks.d(-1) + far);
        goes(bench, 0, Checks.INF - far, far, far, Checks.INF);
        goes(bench, 0, Checks.INF - far + 1, far, far - 1, Checks.INF);
        goes(bench, 1, Checks.INF_S, -far, far, Checks.INF_S - far);
        goes(bench, 1, Checks.MINUS_S | Checks.INF_S, far, far, Checks.MINUS_S | Checks.INF_S - far);
        goes(bench, 1, Checks.INF_S - 999999999, far, far - 1, Checks.INF_S);
        goes(bench, 1, Checks.MINUS_S | Checks.INF_S - 7, -far, 7, Checks.MINUS_S | Checks.INF_S);
        goes(bench, 1, Checks.s(1), far, far, Checks.s(1) + far);
        goes(bench, 1, 500000000, -far, far, Checks.MINUS_S | 500000000);
    }

    private static void oneByOne() {
        Random random = new Random(12);
        for (int round = 0; round < 500; round++) {
            ReckonBench bench = newBench();
            for (int i = 0; i < 40; i++) {
                double x = Checks.someDouble(random);
                float y = Checks.someSingle(random);
                boolean up = random.nextBoolean();
                double next = up ? Math.nextUp(x) : Math.nextDown(x);
                float nextSingle = up ? Math.nextUp(y) : Math.nextDown(y);
                int n = up ? 1 : -1;
                goes(bench, 0, Checks.d(x), n, next == x || x != x ? 0 : 1, Checks.d(next));
                goes(bench, 1, Checks.s(y), n, nextSingle == y || y != y ? 0 : 1, Checks.s(nextSingle));
            }
        }
    }

    private static void anySteps() {
        Random random = new Random(1212);
        for (int round = 0; round < 200; round++) {
            ReckonBench bench = newBench();
            for (int i = 0; i < 60; i++) {
                float y = Checks.someSingle(random);
                int n = random.nextInt(41) - 20;
                float to = y;
                int went = 0;
                while (went < Math.abs(n) && y == y && to != Math.copySign(Float.POSITIVE_INFINITY, n)) {
                    to = n > 0 ? Math.nextUp(to) : Math.nextDown(to);
                    went++;
                }
                goes(bench, 1, Checks.s(y), n, went, Checks.s(to));
            }
        }
    }

    private static void wrongInputs() {
        ReckonBench bench = newBench();
        int[] rows = {-1, 2, Integer.MIN_VALUE, Integer.MAX_VALUE};
        for (int row : rows) {
            Checks.refused("12: row " + row, bench, bench.step(row, 5, 1000000001), -9, 1);
        }
        int[] places = {-1, 2, Integer.MIN_VALUE, Integer.MAX_VALUE};
        for (int i : places) {
            Checks.refused("12: place " + i, bench, bench.step(0, i, 1), -9, 2);
        }
        int[] steps = {1000000001, -1000000001, Integer.MIN_VALUE, Integer.MAX_VALUE};
        bench.set(0, 0, Checks.NAN);
        for (int n : steps) {
            Checks.refused("12: n " + n, bench, bench.step(1, 0, n), -9, 2);
            Checks.refused("12: n " + n + " from NaN", bench, bench.step(0, 0, n), -9, 2);
        }
        Checks.due("12: refusals change nothing", bench.get(1, 0), 0);
    }
}
