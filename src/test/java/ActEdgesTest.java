/** The edges that promise 11 names, sentence by sentence. */
public final class ActEdgesTest {
    private static final double INF = Double.POSITIVE_INFINITY;
    private static final double NAN = Double.NaN;
    private static final int[] WITHOUT_Y = {0, 3, 4, 5, 6, 13};
    private static final int[] WITH_Y = {1, 2, 7, 8, 9, 10, 11, 12};

    public static void main(String[] args) {
        places();
        yIsAPlace();
        whats();
        withoutSign();
        greater();
        lesser();
        notAbove();
        notBelow();
        nearest();
        wholeZeros();
        wholeInfinite();
        oneWithSign();
        signOfY();
        otherSign();
        nanX();
        nanY();
        exactSum();
        sumOfZero();
        sumWithInfinite();
        difference();
        signOfProduct();
        exactProduct();
        exactQuotient();
        infiniteByFinite();
        zeroByInfinite();
        dividedByInfinite();
        dividedByZero();
        remainder();
        remainderZero();
        remainderNan();
        remainderOfInfinite();
        Checks.end();
    }

    private static void becomes(int what, double x, double y, double want) {
        for (int kind : Edges.KINDS) {
            becomesBits(kind, what, Edges.of(kind, x), Edges.of(kind, y), Edges.of(kind, want));
        }
    }

    private static void becomesBits(int kind, int what, long x, long y, long want) {
        ReckonBench bench = Edges.bench(kind, x, y, want, 0);
        String told = "act " + what + " of " + x + ", " + y + ", kind " + kind;
        Checks.due(told + ": sort", bench.act(0, what, 0, 1, 3), bench.move(0, 2, 0, 2, false));
        Checks.due(told + ": bits", bench.get(0, 3), want);
        Checks.due(told + ": x", bench.get(0, 0), x);
        Checks.due(told + ": y", bench.get(0, 1), y);
    }

    private static void places() {
        Checks.says("Promise 11: PLACE k gets, of x at i and y at j ...: its SORT.");
        for (int kind : Edges.KINDS) {
            long three = Edges.of(kind, 3);
            ReckonBench bench = Edges.bench(kind, Edges.of(kind, 5), three, 0);
            Checks.due("x at the last place", bench.act(0, 9, 2, 1, 0), 5);
            Edges.rowIs("0 - 3", bench, 0, Edges.of(kind, -3), three, 0);
            Checks.due("k is i", bench.act(0, 9, 0, 1, 0), 5);
            Edges.rowIs("-3 - 3", bench, 0, Edges.of(kind, -6), three, 0);
            Checks.due("k is j", bench.act(0, 11, 0, 1, 1), 5);
            Edges.rowIs("-6 / 3", bench, 0, Edges.of(kind, -6), Edges.of(kind, -2), 0);
            Checks.due("i, j and k one", bench.act(0, 9, 0, 0, 0), 0);
            Edges.rowIs("-6 - -6", bench, 0, 0, Edges.of(kind, -2), 0);
            int[] wrong = {Integer.MIN_VALUE, -1, 3, Integer.MAX_VALUE};
            for (int i : wrong) {
                Checks.refused("i " + i, bench, bench.act(0, 8, i, 0, 0), -9, 2);
                Checks.refused("j " + i, bench, bench.act(0, 8, 0, i, 0), -9, 2);
                Checks.refused("k " + i, bench, bench.act(0, 8, 0, 0, i), -9, 2);
            }
        }
    }

    private static void yIsAPlace() {
        Checks.says("Promise 11: (a PLACE also where y is not named ...)");
        for (int what : WITHOUT_Y) {
            for (int kind : Edges.KINDS) {
                ReckonBench bench = Edges.benchOf(kind, -5, 7);
                Checks.refused("j -1, act " + what, bench, bench.act(0, what, 0, -1, 0), -9, 2);
                Checks.refused("j 2, act " + what, bench, bench.act(0, what, 0, 2, 0), -9, 2);
                Edges.rowIs("nothing came", bench, 0, Edges.bitsOf(kind, -5, 7));
                bench.act(0, what, 0, 1, 0);
                Checks.due("j 1, act " + what, bench.status(), 0);
                bench.act(0, what, 0, 0, 0);
                Checks.due("j 0, act " + what, bench.status(), 0);
            }
        }
    }

    private static void whats() {
        Checks.says("Promise 11: (... what 0 to 13)");
        int[] wrong = {Integer.MIN_VALUE, -1, 14, Integer.MAX_VALUE};
        for (int kind : Edges.KINDS) {
            ReckonBench bench = Edges.benchOf(kind, -5, 7);
            for (int what : wrong) {
                Checks.refused("what " + what, bench, bench.act(0, what, 0, 1, 0), -9, 2);
            }
            Edges.rowIs("nothing came", bench, 0, Edges.bitsOf(kind, -5, 7));
            Checks.due("what 0", bench.act(0, 0, 0, 1, 1), 1);
            Checks.due("answered", bench.status(), 0);
            Checks.due("what 13", bench.act(0, 13, 1, 1, 1), 5);
            Checks.due("answered", bench.status(), 0);
        }
        double[] each = {6.75, 2.5, -6.75, -7, -6, -7, -1, 6.75, -4.25, -9.25, -16.875, -2.7, -1.75, 6.75};
        for (int what = 0; what < 14; what++) {
            becomes(what, -6.75, 2.5, each[what]);
        }
    }

    private static void withoutSign() {
        Checks.says("Promise 11: 0 x without its sign.");
        becomes(0, 5, -1, 5);
        becomes(0, -5, -1, 5);
        becomes(0, 0.0, -1, 0.0);
        becomes(0, -0.0, -1, 0.0);
        becomes(0, INF, -1, INF);
        becomes(0, -INF, -1, INF);
        for (int kind : Edges.KINDS) {
            becomesBits(kind, 0, Edges.minus(kind, 1), 0, 1);
            becomesBits(kind, 0, Edges.minus(kind, Edges.most(kind)), 0, Edges.most(kind));
        }
    }

    private static void greater() {
        Checks.says("Promise 11: 1 the greater (of two zeros that are unlike 0)");
        becomes(1, 0.0, -0.0, 0.0);
        becomes(1, -0.0, 0.0, 0.0);
        becomes(1, -0.0, -0.0, -0.0);
        becomes(1, 0.0, 0.0, 0.0);
        becomes(1, 1, 2, 2);
        becomes(1, 2, 1, 2);
        becomes(1, -1, -2, -1);
        becomes(1, INF, 5, INF);
        becomes(1, -INF, 5, 5);
        for (int kind : Edges.KINDS) {
            long minus = Edges.minusZero(kind);
            becomesBits(kind, 1, minus, 1, 1);
            becomesBits(kind, 1, minus | 1, minus, minus);
            becomesBits(kind, 1, Edges.most(kind), Edges.infinite(kind), Edges.infinite(kind));
        }
    }

    private static void lesser() {
        Checks.says("Promise 11: 2 the lesser (-0).");
        becomes(2, 0.0, -0.0, -0.0);
        becomes(2, -0.0, 0.0, -0.0);
        becomes(2, 0.0, 0.0, 0.0);
        becomes(2, -0.0, -0.0, -0.0);
        becomes(2, 1, 2, 1);
        becomes(2, 2, 1, 1);
        becomes(2, -1, -2, -2);
        becomes(2, INF, 5, 5);
        becomes(2, -INF, 5, -INF);
        for (int kind : Edges.KINDS) {
            long minus = Edges.minusZero(kind);
            becomesBits(kind, 2, 0, minus | 1, minus | 1);
            becomesBits(kind, 2, 1, 0, 0);
            becomesBits(kind, 2, Edges.most(kind), Edges.infinite(kind), Edges.most(kind));
        }
    }

    private static void notAbove() {
        Checks.says("Promise 11: 3 the greatest whole VALUE that is not above x");
        becomes(3, 1, NAN, 1);
        becomes(3, 1.5, NAN, 1);
        becomes(3, -1, NAN, -1);
        becomes(3, -1.5, NAN, -2);
        becomes(3, -0.5, NAN, -1);
        becomes(3, 4194303.5, NAN, 4194303);
        becomes(3, -8388607.5, NAN, -8388608);
        becomes(3, 8388608, NAN, 8388608);
        becomesBits(Edges.DOUBLE, 3, Checks.d(4503599627370495.5), 0, Checks.d(4503599627370495.0));
        becomesBits(Edges.DOUBLE, 3, Checks.d(-4503599627370495.5), 0, Checks.d(-4503599627370496.0));
        for (int kind : Edges.KINDS) {
            long one = Edges.of(kind, 1);
            becomesBits(kind, 3, one - 1, 0, 0);
            becomesBits(kind, 3, one + 1, 0, one);
            becomesBits(kind, 3, Edges.minus(kind, one + 1), 0, Edges.of(kind, -2));
            becomesBits(kind, 3, Edges.minus(kind, 1), 0, Edges.minus(kind, one));
            becomesBits(kind, 3, Edges.most(kind), 0, Edges.most(kind));
        }
    }

    private static void notBelow() {
        Checks.says("Promise 11: 4 the least that is not below");
        becomes(4, 1, NAN, 1);
        becomes(4, 1.5, NAN, 2);
        becomes(4, -1, NAN, -1);
        becomes(4, -1.5, NAN, -1);
        becomes(4, 0.5, NAN, 1);
        becomes(4, 8388607.5, NAN, 8388608);
        becomes(4, -8388607.5, NAN, -8388607);
        becomesBits(Edges.DOUBLE, 4, Checks.d(4503599627370495.5), 0, Checks.d(4503599627370496.0));
        for (int kind : Edges.KINDS) {
            long one = Edges.of(kind, 1);
            becomesBits(kind, 4, one - 1, 0, one);
            becomesBits(kind, 4, one + 1, 0, Edges.of(kind, 2));
            becomesBits(kind, 4, Edges.minus(kind, one + 1), 0, Edges.minus(kind, one));
            becomesBits(kind, 4, 1, 0, one);
            becomesBits(kind, 4, Edges.minus(kind, Edges.most(kind)), 0, Edges.minus(kind, Edges.most(kind)));
        }
    }

    private static void nearest() {
        Checks.says("Promise 11: 5 the nearest, of two the even one");
        becomes(5, 1.5, NAN, 2);
        becomes(5, 2.5, NAN, 2);
        becomes(5, -1.5, NAN, -2);
        becomes(5, -2.5, NAN, -2);
        becomes(5, 3.5, NAN, 4);
        becomes(5, 4194302.5, NAN, 4194302);
        becomes(5, 4194303.5, NAN, 4194304);
        becomes(5, 8388607.5, NAN, 8388608);
        becomesBits(Edges.DOUBLE, 5, Checks.d(4503599627370495.5), 0, Checks.d(4503599627370496.0));
        becomesBits(Edges.DOUBLE, 5, Checks.d(4503599627370494.5), 0, Checks.d(4503599627370494.0));
        for (int kind : Edges.KINDS) {
            long half = Edges.of(kind, 0.5);
            long one = Edges.of(kind, 1);
            long twoAndAHalf = Edges.of(kind, 2.5);
            becomesBits(kind, 5, half, 0, 0);
            becomesBits(kind, 5, half - 1, 0, 0);
            becomesBits(kind, 5, half + 1, 0, one);
            becomesBits(kind, 5, Edges.of(kind, 1.5) - 1, 0, one);
            becomesBits(kind, 5, twoAndAHalf - 1, 0, Edges.of(kind, 2));
            becomesBits(kind, 5, twoAndAHalf + 1, 0, Edges.of(kind, 3));
            becomesBits(kind, 5, Edges.minus(kind, twoAndAHalf + 1), 0, Edges.of(kind, -3));
            becomesBits(kind, 5, one - 1, 0, one);
            becomesBits(kind, 5, Edges.most(kind), 0, Edges.most(kind));
        }
    }

    private static void wholeZeros() {
        Checks.says("Promise 11: (of all three: a zero has x's sign");
        for (int what = 3; what <= 5; what++) {
            becomes(what, 0.0, NAN, 0.0);
            becomes(what, -0.0, NAN, -0.0);
        }
        becomes(3, 0.5, NAN, 0.0);
        becomes(4, -0.5, NAN, -0.0);
        becomes(5, 0.5, NAN, 0.0);
        becomes(5, -0.5, NAN, -0.0);
        for (int kind : Edges.KINDS) {
            long minus = Edges.minusZero(kind);
            becomesBits(kind, 3, 1, 0, 0);
            becomesBits(kind, 4, minus | 1, 0, minus);
            becomesBits(kind, 5, 1, 0, 0);
            becomesBits(kind, 5, minus | 1, 0, minus);
            becomesBits(kind, 4, minus | Edges.of(kind, 1) - 1, 0, minus);
        }
    }

    private static void wholeInfinite() {
        Checks.says("Promise 11: INFINITE ones stay).");
        for (int what = 3; what <= 5; what++) {
            becomes(what, INF, NAN, INF);
            becomes(what, -INF, NAN, -INF);
        }
    }

    private static void oneWithSign() {
        Checks.says("Promise 11: 6 1 with x's sign, a zero itself.");
        becomes(6, 5, -1, 1);
        becomes(6, -5, 1, -1);
        becomes(6, 0.0, -1, 0.0);
        becomes(6, -0.0, 1, -0.0);
        becomes(6, INF, -1, 1);
        becomes(6, -INF, 1, -1);
        for (int kind : Edges.KINDS) {
            becomesBits(kind, 6, 1, 0, Edges.of(kind, 1));
            becomesBits(kind, 6, Edges.minus(kind, 1), 0, Edges.of(kind, -1));
        }
    }

    private static void signOfY() {
        Checks.says("Promise 11: 7 x with y's sign.");
        double[] tried = {0.0, 5, INF};
        for (double x : tried) {
            for (double y : tried) {
                becomes(7, x, y, x);
                becomes(7, x, -y, -x);
                becomes(7, -x, y, x);
                becomes(7, -x, -y, -x);
            }
        }
    }

    private static void otherSign() {
        Checks.says("Promise 11: 13 x with the other sign.");
        double[] tried = {0.0, 5, INF};
        for (double x : tried) {
            becomes(13, x, 1, -x);
            becomes(13, -x, 1, x);
        }
        for (int kind : Edges.KINDS) {
            becomesBits(kind, 13, 1, 0, Edges.minus(kind, 1));
        }
    }

    private static void nanX() {
        Checks.says("Promise 11: If x is NaN ... it is NaN.");
        double[] others = {0.0, -0.0, 1, -1, INF, -INF, NAN};
        for (int what = 0; what < 14; what++) {
            for (double y : others) {
                becomes(what, NAN, y, NAN);
            }
        }
        Checks.due("with a sign of its own it has none", Edges.acted(Edges.DOUBLE, 13, -1, 0), Checks.NAN);
    }

    private static void nanY() {
        Checks.says("Promise 11: If ... y, where y is named, it is NaN.");
        double[] others = {0.0, -0.0, 1, -1, INF, -INF};
        for (double x : others) {
            for (int what : WITH_Y) {
                becomes(what, x, NAN, NAN);
            }
            double[] withoutY = {Math.abs(x), x, x, x, Math.signum(x), -x};
            for (int i = 0; i < WITHOUT_Y.length; i++) {
                becomes(WITHOUT_Y[i], x, NAN, withoutY[i]);
            }
        }
    }

    private static void exactSum() {
        Checks.says("Promise 11: 8: the exact sum ROUNDED");
        becomesBits(Edges.DOUBLE, 8, Checks.d(0.1), Checks.d(0.2), Checks.d(0.30000000000000004));
        for (int kind : Edges.KINDS) {
            long one = Edges.of(kind, 1);
            long half = Edges.of(kind, kind == Edges.DOUBLE ? 0x1p-53 : 0x1p-24);
            long quarter = Edges.of(kind, kind == Edges.DOUBLE ? 0x1p-54 : 0x1p-25);
            long minus = Edges.minusZero(kind);
            becomesBits(kind, 8, one, half, one);
            becomesBits(kind, 8, one, half + 1, one + 1);
            becomesBits(kind, 8, one + 1, half, one + 2);
            becomesBits(kind, 8, one, minus | quarter, one);
            becomesBits(kind, 8, one, minus | quarter + 1, one - 1);
            becomesBits(kind, 8, one, 1, one);
            becomesBits(kind, 8, one, minus | 1, one);
            becomesBits(kind, 8, 1, 1, 2);
            becomesBits(kind, 8, one + 1, minus | one, Edges.of(kind, kind == Edges.DOUBLE ? 0x1p-52 : 0x1p-23));
            becomesBits(kind, 8, Edges.most(kind), Edges.most(kind), Edges.infinite(kind));
            becomesBits(kind, 8, Edges.most(kind), 1, Edges.most(kind));
        }
    }

    private static void sumOfZero() {
        Checks.says("Promise 11: one that is exactly 0: -0 if x and y both are -0, else 0");
        becomes(8, 0.0, 0.0, 0.0);
        becomes(8, 0.0, -0.0, 0.0);
        becomes(8, -0.0, 0.0, 0.0);
        becomes(8, -0.0, -0.0, -0.0);
        becomes(8, 5, -5, 0.0);
        becomes(8, -5, 5, 0.0);
        for (int kind : Edges.KINDS) {
            becomesBits(kind, 8, Edges.minus(kind, 1), 1, 0);
            becomesBits(kind, 8, Edges.most(kind), Edges.minus(kind, Edges.most(kind)), 0);
            becomesBits(kind, 8, Edges.minus(kind, 2), 1, Edges.minus(kind, 1));
        }
    }

    private static void sumWithInfinite() {
        Checks.says("Promise 11: with one INFINITE, or two of one sign: that; with two of unlike signs NaN.");
        double[] finite = {0.0, -0.0, 5, -5};
        for (double y : finite) {
            becomes(8, INF, y, INF);
            becomes(8, -INF, y, -INF);
            becomes(8, y, INF, INF);
            becomes(8, y, -INF, -INF);
        }
        becomes(8, INF, INF, INF);
        becomes(8, -INF, -INF, -INF);
        becomes(8, INF, -INF, NAN);
        becomes(8, -INF, INF, NAN);
        for (int kind : Edges.KINDS) {
            becomesBits(kind, 8, Edges.minus(kind, Edges.most(kind)), Edges.infinite(kind), Edges.infinite(kind));
        }
    }

    private static void difference() {
        Checks.says("Promise 11: 9: as 8 of x and y with the other sign.");
        becomes(9, 0.0, 0.0, 0.0);
        becomes(9, 0.0, -0.0, 0.0);
        becomes(9, -0.0, 0.0, -0.0);
        becomes(9, -0.0, -0.0, 0.0);
        becomes(9, 5, 5, 0.0);
        becomes(9, -5, -5, 0.0);
        becomes(9, 3, 5, -2);
        becomes(9, INF, INF, NAN);
        becomes(9, -INF, -INF, NAN);
        becomes(9, INF, -INF, INF);
        becomes(9, -INF, INF, -INF);
        becomes(9, 5, INF, -INF);
        becomes(9, 5, -INF, INF);
        becomes(9, 5, NAN, NAN);
        for (int kind : Edges.KINDS) {
            long most = Edges.most(kind);
            becomesBits(kind, 9, 1, 2, Edges.minus(kind, 1));
            becomesBits(kind, 9, most, Edges.minus(kind, most), Edges.infinite(kind));
        }
    }

    private static void signOfProduct() {
        Checks.says("Promise 11: 10, 11: the sign is - if just one of x and y has -");
        double[][] products = {{0.0, 5, 0.0}, {0.0, 0.0, 0.0}, {2, 5, 10}, {INF, 5, INF}, {INF, INF, INF}};
        double[][] quotients = {{0.0, 5, 0.0}, {5, INF, 0.0}, {10, 5, 2}, {INF, 5, INF}, {5, 0.0, INF}};
        for (int i = 0; i < products.length; i++) {
            eachSign(10, products[i][0], products[i][1], products[i][2]);
            eachSign(11, quotients[i][0], quotients[i][1], quotients[i][2]);
        }
        for (int kind : Edges.KINDS) {
            long minus = Edges.minusZero(kind);
            becomesBits(kind, 10, 1, minus | 1, minus);
            becomesBits(kind, 10, minus | 1, minus | 1, 0);
            becomesBits(kind, 11, minus | 1, Edges.most(kind), minus);
        }
    }

    private static void eachSign(int what, double x, double y, double want) {
        becomes(what, x, y, want);
        becomes(what, -x, y, -want);
        becomes(what, x, -y, -want);
        becomes(what, -x, -y, want);
    }

    private static void exactProduct() {
        Checks.says("Promise 11: the exact product ... ROUNDED");
        becomesBits(Edges.DOUBLE, 10, Checks.d(0.1), Checks.d(0.1), Checks.d(0.010000000000000002));
        for (int kind : Edges.KINDS) {
            long one = Edges.of(kind, 1);
            long half = Edges.of(kind, 0.5);
            // (1 + u) * (1 + u) is 1 + 2u and the least bit more; (1 - u/2) * (1 + u) a bit less than 1 + u/2.
            becomesBits(kind, 10, one + 1, one + 1, one + 2);
            becomesBits(kind, 10, one - 1, one + 1, one);
            // 1.5 * (1 + u) is as near to two numbers, and so is 1.5 * (1 + 3u).
            becomesBits(kind, 10, Edges.of(kind, 1.5), one + 1, Edges.of(kind, 1.5) + 2);
            becomesBits(kind, 10, Edges.of(kind, 1.5), one + 3, Edges.of(kind, 1.5) + 4);
            // The least bit more, and less, than what is as near to two.
            becomesBits(kind, 10, Edges.of(kind, 1.5) + 1, one + 1, Edges.of(kind, 1.5) + 3);
            becomesBits(kind, 10, Edges.of(kind, 1.5) - 1, one + 1, Edges.of(kind, 1.5));
            becomesBits(kind, 10, 1, half, 0);
            becomesBits(kind, 10, 1, half + 1, 1);
            becomesBits(kind, 10, 3, half, 2);
            becomesBits(kind, 10, 3, half - 1, 1);
            becomesBits(kind, 10, Edges.most(kind), one, Edges.most(kind));
            becomesBits(kind, 10, Edges.most(kind), one + 1, Edges.infinite(kind));
            becomesBits(kind, 10, Edges.most(kind), one - 1, Edges.most(kind) - 1);
        }
    }

    private static void exactQuotient() {
        Checks.says("Promise 11: the exact ... quotient ROUNDED");
        becomesBits(Edges.DOUBLE, 11, Checks.d(1), Checks.d(3), Checks.d(0.3333333333333333));
        becomesBits(Edges.SINGLE, 11, Checks.s(1), Checks.s(3), Checks.s(0.33333334f));
        for (int kind : Edges.KINDS) {
            long one = Edges.of(kind, 1);
            long two = Edges.of(kind, 2);
            long most = Edges.most(kind);
            // 1 / (1 - u/2) is a bit more than 1 + u/2; 1 / (1 + u) a bit more than 1 - u.
            becomesBits(kind, 11, one, one - 1, one + 1);
            becomesBits(kind, 11, one, one + 1, one - 2);
            becomesBits(kind, 11, 1, two, 0);
            becomesBits(kind, 11, 1, two - 1, 1);
            becomesBits(kind, 11, 3, two, 2);
            becomesBits(kind, 11, 3, two + 1, 1);
            becomesBits(kind, 11, most, one, most);
            becomesBits(kind, 11, most, one - 1, Edges.infinite(kind));
            becomesBits(kind, 11, most, 1, Edges.infinite(kind));
            becomesBits(kind, 11, 1, most, 0);
            becomesBits(kind, 11, most, most, one);
            becomesBits(kind, 11, 1, 1, one);
        }
    }

    private static void infiniteByFinite() {
        Checks.says("Promise 11: INFINITE by a finite one that is no zero, by INFINITE: INFINITE");
        eachSign(10, INF, 5, INF);
        eachSign(10, 5, INF, INF);
        eachSign(10, INF, INF, INF);
        eachSign(11, INF, 5, INF);
        for (int kind : Edges.KINDS) {
            long infinite = Edges.infinite(kind);
            becomesBits(kind, 10, infinite, 1, infinite);
            becomesBits(kind, 10, 1, infinite, infinite);
            becomesBits(kind, 10, infinite, Edges.minus(kind, 1), Edges.minus(kind, infinite));
            becomesBits(kind, 11, infinite, 1, infinite);
            becomesBits(kind, 11, infinite, Edges.most(kind), infinite);
        }
    }

    private static void zeroByInfinite() {
        Checks.says("Promise 11: a zero by INFINITE: NaN");
        double[] signs = {1, -1};
        for (double first : signs) {
            for (double second : signs) {
                becomes(10, first * 0.0, second * INF, NAN);
                becomes(10, first * INF, second * 0.0, NAN);
            }
        }
        for (int kind : Edges.KINDS) {
            becomesBits(kind, 10, 0, Edges.most(kind), 0);
            becomesBits(kind, 10, Edges.infinite(kind), 1, Edges.infinite(kind));
        }
    }

    private static void dividedByInfinite() {
        Checks.says("Promise 11: what is divided by INFINITE is a zero, INFINITE by INFINITE NaN");
        eachSign(11, 5, INF, 0.0);
        eachSign(11, 0.0, INF, 0.0);
        eachSign(11, INF, INF, NAN);
        for (int kind : Edges.KINDS) {
            becomesBits(kind, 11, Edges.most(kind), Edges.infinite(kind), 0);
            becomesBits(kind, 11, Edges.minus(kind, Edges.most(kind)), Edges.infinite(kind), Edges.minusZero(kind));
            becomesBits(kind, 11, Edges.infinite(kind), Edges.most(kind), Edges.infinite(kind));
        }
    }

    private static void dividedByZero() {
        Checks.says("Promise 11: by a zero: INFINITE, a zero by a zero NaN.");
        eachSign(11, 5, 0.0, INF);
        eachSign(11, INF, 0.0, INF);
        eachSign(11, 0.0, 0.0, NAN);
        for (int kind : Edges.KINDS) {
            becomesBits(kind, 11, 1, 0, Edges.infinite(kind));
            becomesBits(kind, 11, 1, Edges.minusZero(kind), Edges.minus(kind, Edges.infinite(kind)));
            becomesBits(kind, 11, 0, 1, 0);
        }
    }

    private static void remainder() {
        Checks.says("Promise 11: 12 what x / y leaves: x less y times the whole part of x / y. ... 12: exact");
        becomes(12, 7, 3, 1);
        becomes(12, -7, 3, -1);
        becomes(12, 7, -3, 1);
        becomes(12, -7, -3, -1);
        becomes(12, 5.5, 2, 1.5);
        becomes(12, 2, 3, 2);
        becomes(12, -2, 3, -2);
        becomesBits(Edges.DOUBLE, 12, Checks.d(1), Checks.d(0.1), Checks.d(0.09999999999999995));
        becomesBits(Edges.DOUBLE, 12, Checks.d(1e300), Checks.d(7), Checks.d(1));
        for (int kind : Edges.KINDS) {
            long one = Edges.of(kind, 1);
            long most = Edges.most(kind);
            becomesBits(kind, 12, one - 1, one, one - 1);
            becomesBits(kind, 12, one + 1, one, Edges.of(kind, kind == Edges.DOUBLE ? 0x1p-52 : 0x1p-23));
            becomesBits(kind, 12, 5, 3, 2);
            becomesBits(kind, 12, most, most - 1, Edges.of(kind, kind == Edges.DOUBLE ? 0x1p971 : 0x1p104));
            becomesBits(kind, 12, most, Edges.minus(kind, 3), kind == Edges.DOUBLE
                    ? Checks.d(Double.MAX_VALUE % (3 * Double.MIN_VALUE))
                    : Checks.s(Float.MAX_VALUE % (3 * Float.MIN_VALUE)));
            becomesBits(kind, 12, 1, most, 1);
        }
    }

    private static void remainderZero() {
        Checks.says("Promise 11: a zero has x's sign");
        becomes(12, 6, 3, 0.0);
        becomes(12, -6, 3, -0.0);
        becomes(12, 6, -3, 0.0);
        becomes(12, -6, -3, -0.0);
        becomes(12, 0.0, -3, 0.0);
        becomes(12, -0.0, 3, -0.0);
        for (int kind : Edges.KINDS) {
            becomesBits(kind, 12, Edges.most(kind), 1, 0);
            becomesBits(kind, 12, Edges.minus(kind, Edges.most(kind)), 1, Edges.minusZero(kind));
            becomesBits(kind, 12, Edges.minus(kind, 1), 1, Edges.minusZero(kind));
        }
    }

    private static void remainderNan() {
        Checks.says("Promise 11: x INFINITE or y a zero: NaN");
        double[] signs = {1, -1};
        for (double first : signs) {
            for (double second : signs) {
                becomes(12, first * INF, second * 5, NAN);
                becomes(12, first * INF, second * INF, NAN);
                becomes(12, first * INF, second * 0.0, NAN);
                becomes(12, first * 5, second * 0.0, NAN);
                becomes(12, first * 0.0, second * 0.0, NAN);
            }
        }
        for (int kind : Edges.KINDS) {
            becomesBits(kind, 12, Edges.most(kind), 1, 0);
            becomesBits(kind, 12, 1, 0, Edges.nan(kind));
        }
    }

    private static void remainderOfInfinite() {
        Checks.says("Promise 11: y INFINITE: x.");
        double[] finite = {0.0, -0.0, 5, -5};
        for (double x : finite) {
            becomes(12, x, INF, x);
            becomes(12, x, -INF, x);
        }
        for (int kind : Edges.KINDS) {
            becomesBits(kind, 12, Edges.minus(kind, Edges.most(kind)), Edges.infinite(kind),
                    Edges.minus(kind, Edges.most(kind)));
            becomesBits(kind, 12, 1, Edges.minus(kind, Edges.infinite(kind)), 1);
            becomesBits(kind, 12, 5, Edges.most(kind), 5);
        }
    }
}
