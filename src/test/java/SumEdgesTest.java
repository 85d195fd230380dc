/** The edges that promise 15 names, sentence by sentence. */
public final class SumEdgesTest {
    private static final double INF = Double.POSITIVE_INFINITY;
    private static final double NAN = Double.NaN;

    public static void main(String[] args) {
        ways();
        asByActs();
        inOrder();
        inOrderFromZero();
        carried();
        carriedFromZero();
        carriedInfinite();
        oneNumber();
        firstHalfAndOthers();
        cutOff();
        Checks.end();
    }

    private static void sumIs(int kind, int way, double want, double... values) {
        ReckonBench bench = Edges.benchOf(kind, values);
        Checks.due("way " + way + ", kind " + kind, bench.sum(0, way), Edges.of(kind, want));
        Checks.due("answered", bench.status(), 0);
        Edges.rowIs("the ROW stays", bench, 0, Edges.bitsOf(kind, values));
    }

    /** Half of the last bit of 1. */
    private static double half(int kind) {
        return kind == Edges.DOUBLE ? 0x1p-53 : 0x1p-24;
    }

    private static void ways() {
        Checks.says("Promise 15: The BITS of a sum of all [way 0 to 2]");
        int[] wrong = {Integer.MIN_VALUE, -1, 3, Integer.MAX_VALUE};
        for (int kind : Edges.KINDS) {
            ReckonBench bench = Edges.benchOf(kind, 1, 2, 3, -4.5);
            for (int way : wrong) {
                Checks.refused("way " + way, bench, bench.sum(0, way), 0, 2);
            }
            for (int way = 0; way < 3; way++) {
                sumIs(kind, way, 1.5, 1, 2, 3, -4.5);
                sumIs(kind, way, 5, 5);
            }
            bench = new ReckonBench();
            bench.row(500, Edges.single(kind));
            bench.whole(0, 0, 3);
            bench.whole(0, 499, 4);
            for (int way = 0; way < 3; way++) {
                Checks.due("of 500", bench.sum(0, way), Edges.of(kind, 7));
            }
        }
    }

    private static void asByActs() {
        Checks.says("Promise 15: + and - as by act 8, 9");
        for (int way = 0; way < 3; way++) {
            // A detour by DOUBLE ones would keep the 1.
            sumIs(Edges.SINGLE, way, 16777216, 16777216, 1);
            sumIs(Edges.SINGLE, way, 16777220, 16777216, 3);
            for (int kind : Edges.KINDS) {
                sumIs(kind, way, 0.0, 5, -5);
                sumIs(kind, way, 0.0, -5, 5);
                sumIs(kind, way, NAN, 1, NAN);
                sumIs(kind, way, NAN, INF, -INF);
                sumIs(kind, way, 1, 1, half(kind));
                ReckonBench bench = Edges.bench(kind, Edges.most(kind), Edges.most(kind));
                Checks.due("beyond the greatest", bench.sum(0, way), Edges.infinite(kind));
                bench = Edges.bench(kind, 1, 1, 1);
                Checks.due("the least ones", bench.sum(0, way), 3);
            }
        }
    }

    private static void inOrder() {
        Checks.says("Promise 15: way 0: ... for each number x in order s = s + x, then s");
        for (int kind : Edges.KINDS) {
            double half = half(kind);
            sumIs(kind, 0, 1, 1, half, half);
            sumIs(kind, 0, 1 + 2 * half, half, half, 1);
            sumIs(kind, 0, 1, 1, half, half, half, half);
            sumIs(kind, 0, 0, 1, 0x1p60, -0x1p60);
            sumIs(kind, 0, 1, 0x1p60, -0x1p60, 1);
        }
    }

    private static void inOrderFromZero() {
        Checks.says("Promise 15: way 0: s is 0");
        for (int kind : Edges.KINDS) {
            sumIs(kind, 0, 0.0, -0.0);
            sumIs(kind, 0, 0.0, -0.0, -0.0);
            sumIs(kind, 0, 0.0, 0.0);
            sumIs(kind, 0, -5, -5);
            ReckonBench bench = Edges.bench(kind, Edges.minus(kind, 1));
            Checks.due("the greatest below 0", bench.sum(0, 0), Edges.minus(kind, 1));
        }
    }

    private static void carried() {
        Checks.says("Promise 15: 1: ... for each number x in order: y = x - c, t = s + y, c = (t - s) - y, s = t;"
                + " then s");
        for (int kind : Edges.KINDS) {
            double half = half(kind);
            sumIs(kind, 1, 1 + 2 * half, 1, half, half);
            sumIs(kind, 1, 1 + 4 * half, 1, half, half, half, half);
            sumIs(kind, 1, 1, 1, half);
            sumIs(kind, 1, 1 + 4 * half, 1, half, 2 * half);
            // What is left over is too little beside -2^60, and lost again.
            sumIs(kind, 1, 0, 1, 0x1p60, 1, -0x1p60);
            sumIs(kind, 1, 2, 0x1p60, 1, -0x1p60, 2);
        }
        sumIs(Edges.SINGLE, 1, 5, 16777216, 1, 1, 1, -16777216, 1);
    }

    private static void carriedFromZero() {
        Checks.says("Promise 15: 1: s and c are 0");
        for (int kind : Edges.KINDS) {
            sumIs(kind, 1, 0.0, -0.0);
            sumIs(kind, 1, 0.0, -0.0, -0.0);
            sumIs(kind, 1, 5, 5);
            ReckonBench bench = Edges.bench(kind, 1);
            Checks.due("the least", bench.sum(0, 1), 1);
        }
    }

    private static void carriedInfinite() {
        Checks.says("Promise 15: 1: ... c = (t - s) - y [with INFINITE ones]");
        for (int kind : Edges.KINDS) {
            sumIs(kind, 1, INF, INF);
            sumIs(kind, 1, INF, 1, INF);
            sumIs(kind, 1, NAN, INF, 1);
            sumIs(kind, 1, NAN, -INF, -INF);
            sumIs(kind, 0, INF, INF, 1);
            sumIs(kind, 2, INF, INF, 1);
            long most = Edges.most(kind);
            Checks.due("become INFINITE", Edges.bench(kind, most, most).sum(0, 1), Edges.infinite(kind));
            Checks.due("and one more", Edges.bench(kind, most, most, 0).sum(0, 1), Edges.nan(kind));
        }
    }

    private static void oneNumber() {
        Checks.says("Promise 15: 2: of one number itself");
        for (int kind : Edges.KINDS) {
            sumIs(kind, 2, -0.0, -0.0);
            sumIs(kind, 2, 0.0, 0.0);
            sumIs(kind, 2, NAN, NAN);
            sumIs(kind, 2, -INF, -INF);
            sumIs(kind, 2, -5, -5);
            sumIs(kind, 2, -0.0, -0.0, -0.0);
            sumIs(kind, 2, -0.0, -0.0, -0.0, -0.0);
            sumIs(kind, 2, 0.0, -0.0, 0.0);
        }
    }

    private static void firstHalfAndOthers() {
        Checks.says("Promise 15: 2: ... of m the sum of the first m / 2 ..., reckoned so, + that of the others,"
                + " reckoned so.");
        for (int kind : Edges.KINDS) {
            double half = half(kind);
            sumIs(kind, 2, 3, 1, 2);
            sumIs(kind, 2, 1 + 2 * half, 1, half, half, half);
            sumIs(kind, 2, 1 + 2 * half, half, half, 1, half);
            sumIs(kind, 2, 1, 1, half, 0, 0);
            sumIs(kind, 2, 1 + 6 * half, half, half, half, half, 1, half, half, half);
        }
    }

    private static void cutOff() {
        Checks.says("Promise 15: 2: ... m / 2 (cut off) [an odd number of them]");
        for (int kind : Edges.KINDS) {
            double half = half(kind);
            sumIs(kind, 2, 1 + 2 * half, 1, half, half);
            sumIs(kind, 2, 1, half, half, 1);
            sumIs(kind, 2, 1, half, 1, half);
            sumIs(kind, 2, 1 + 4 * half, half, half, 1, half, half);
            sumIs(kind, 2, 1 + 4 * half, half, half, half, half, 1, half, half);
            sumIs(kind, 2, 3, 1, 1, 1);
        }
    }
}
