/** The edges that promise 12 names, sentence by sentence. */
public final class StepEdgesTest {
    private static final int FAR = 1000000000;

    public static void main(String[] args) {
        upwardAndDownward();
        howFar();
        nanStays();
        stopsAtInfinite();
        inward();
        zeros();
        howManyItWent();
        Checks.end();
    }

    private static void goes(int kind, long from, int n, int went, long to) {
        ReckonBench bench = Edges.bench(kind, 7, from, 7);
        String told = "step " + n + " from " + from + ", kind " + kind;
        Checks.due(told + ": went", bench.step(0, 1, n), went);
        Checks.due(told + ": status", bench.status(), 0);
        Edges.rowIs(told, bench, 0, 7, to, 7);
    }

    private static void upwardAndDownward() {
        Checks.says("Promise 12: The number at PLACE i goes n numbers UPWARD (n below 0: DOWNWARD)");
        for (int kind : Edges.KINDS) {
            long one = Edges.of(kind, 1);
            long minusOne = Edges.of(kind, -1);
            goes(kind, one, 1, 1, one + 1);
            goes(kind, one, -1, 1, one - 1);
            goes(kind, one, 0, 0, one);
            goes(kind, one, 3, 3, one + 3);
            goes(kind, minusOne, 1, 1, minusOne - 1);
            goes(kind, minusOne, -1, 1, minusOne + 1);
            goes(kind, minusOne, -3, 3, minusOne + 3);
            ReckonBench bench = Edges.bench(kind, one, one);
            Checks.refused("place -1", bench, bench.step(0, -1, 1), -9, 2);
            Checks.refused("place 2", bench, bench.step(0, 2, 1), -9, 2);
            Checks.due("place 0", bench.step(0, 0, 1), 1);
            Edges.rowIs("place 0 alone", bench, 0, one + 1, one);
        }
    }

    private static void howFar() {
        Checks.says("Promise 12: -1000000000 to 1000000000");
        int[] wrong = {Integer.MIN_VALUE, -FAR - 1, FAR + 1, Integer.MAX_VALUE};
        for (int kind : Edges.KINDS) {
            goes(kind, 5, FAR, FAR, FAR + 5L);
            goes(kind, 5, FAR - 1, FAR - 1, FAR + 4L);
            goes(kind, FAR + 5L, -FAR, FAR, 5);
            goes(kind, 0, -FAR, FAR, Edges.minusZero(kind) | FAR);
            ReckonBench bench = Edges.bench(kind, 5, Edges.nan(kind), Edges.infinite(kind));
            for (int n : wrong) {
                for (int i = 0; i < 3; i++) {
                    Checks.refused("n " + n, bench, bench.step(0, i, n), -9, 2);
                }
            }
            Edges.rowIs("nothing went", bench, 0, 5, Edges.nan(kind), Edges.infinite(kind));
        }
    }

    private static void nanStays() {
        Checks.says("Promise 12: NaN stays");
        int[] steps = {-FAR, -1, 0, 1, FAR};
        for (int kind : Edges.KINDS) {
            for (int n : steps) {
                goes(kind, Edges.nan(kind), n, 0, Edges.nan(kind));
                goes(kind, -1, n, 0, Edges.nan(kind));
            }
        }
    }

    private static void stopsAtInfinite() {
        Checks.says("Promise 12: beyond the INFINITE ones there is none, there it stops");
        for (int kind : Edges.KINDS) {
            long top = Edges.infinite(kind);
            long bottom = Edges.minus(kind, top);
            goes(kind, top, 1, 0, top);
            goes(kind, top, FAR, 0, top);
            goes(kind, top, 0, 0, top);
            goes(kind, bottom, -1, 0, bottom);
            goes(kind, bottom, -FAR, 0, bottom);
            goes(kind, top - 1, 1, 1, top);
            goes(kind, top - 1, 2, 1, top);
            goes(kind, top - 2, FAR, 2, top);
            goes(kind, bottom - 1, -1, 1, bottom);
            goes(kind, bottom - 1, -2, 1, bottom);
            goes(kind, bottom - 2, -FAR, 2, bottom);
            goes(kind, top - FAR, FAR, FAR, top);
            goes(kind, top - FAR + 1, FAR, FAR - 1, top);
            goes(kind, top - FAR - 1, FAR, FAR, top - 1);
        }
    }

    private static void inward() {
        Checks.says("Promise 12: (inward it goes from one as from others)");
        for (int kind : Edges.KINDS) {
            long top = Edges.infinite(kind);
            long bottom = Edges.minus(kind, top);
            goes(kind, top, -1, 1, top - 1);
            goes(kind, top, -2, 2, top - 2);
            goes(kind, top, -FAR, FAR, top - FAR);
            goes(kind, bottom, 1, 1, bottom - 1);
            goes(kind, bottom, 2, 2, bottom - 2);
            goes(kind, bottom, FAR, FAR, bottom - FAR);
        }
    }

    private static void zeros() {
        Checks.says("Promise 12: ... UPWARD ... DOWNWARD [the zeros]");
        for (int kind : Edges.KINDS) {
            long minus = Edges.minusZero(kind);
            goes(kind, 0, 1, 1, 1);
            goes(kind, minus, 1, 1, 1);
            goes(kind, 0, -1, 1, minus | 1);
            goes(kind, minus, -1, 1, minus | 1);
            goes(kind, 0, 0, 0, 0);
            goes(kind, minus, 0, 0, minus);
            goes(kind, 1, -1, 1, 0);
            goes(kind, minus | 1, 1, 1, minus);
            goes(kind, FAR, -FAR, FAR, 0);
            goes(kind, minus | FAR, FAR, FAR, minus);
            // Both zeros together are one number on the way.
            goes(kind, 1, -2, 2, minus | 1);
            goes(kind, minus | 1, 2, 2, 1);
            goes(kind, FAR / 2, -FAR, FAR, minus | FAR / 2);
        }
    }

    private static void howManyItWent() {
        Checks.says("Promise 12: how many it went, 0 or more.");
        for (int kind : Edges.KINDS) {
            long one = Edges.of(kind, 1);
            goes(kind, one, -7, 7, one - 7);
            goes(kind, Edges.minus(kind, one), -7, 7, Edges.minus(kind, one + 7));
            goes(kind, Edges.minus(kind, 3), -7, 7, Edges.minus(kind, 10));
            goes(kind, 3, -7, 7, Edges.minus(kind, 4));
            goes(kind, Edges.infinite(kind) - 3, 7, 3, Edges.infinite(kind));
            goes(kind, Edges.nan(kind), -7, 0, Edges.nan(kind));
            goes(kind, 3, 0, 0, 3);
        }
    }
}
