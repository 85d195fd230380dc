/** The edges that promise 17 names, sentence by sentence. */
public final class IntervalEdgesTest {
    private static final double INF = Double.POSITIVE_INFINITY;
    private static final double NAN = Double.NaN;

    public static void main(String[] args) {
        pairs();
        whats();
        pairBecomes();
        sameOne();
        nanIsNone();
        lowAboveHigh();
        sums();
        differences();
        products();
        quotients();
        nanCountsAsZero();
        outward();
        infiniteStays();
        nanBound();
        around();
        common();
        noInterval();
        divisorWithZero();
        nothingCommon();
        Checks.end();
    }

    /** PAIR 0 is A, PAIR 1 is B; these are bits. */
    private static void becomes(int kind, int what, long[] a, long[] b, int answer, long low, long high) {
        ReckonBench bench = Edges.bench(kind, a[0], a[1], b[0], b[1]);
        String told = "what " + what + ", kind " + kind;
        Checks.due(told, bench.interval(0, 0, 1, what), answer);
        Checks.due(told + ": answered", bench.status(), 0);
        Edges.rowIs(told, bench, 0, low, high, b[0], b[1]);
    }

    /** These come just so, without a step outward. */
    private static void becomes(int what, double[] a, double[] b, int answer, double low, double high) {
        for (int kind : Edges.KINDS) {
            becomes(kind, what, Edges.bitsOf(kind, a), Edges.bitsOf(kind, b), answer, Edges.of(kind, low),
                    Edges.of(kind, high));
        }
    }

    /** The bounds are told as they are before they step outward. */
    private static void widens(int what, double[] a, double[] b, double low, double high) {
        for (int kind : Edges.KINDS) {
            becomes(kind, what, Edges.bitsOf(kind, a), Edges.bitsOf(kind, b), 0,
                    Edges.stepped(kind, Edges.of(kind, low), -1), Edges.stepped(kind, Edges.of(kind, high), 1));
        }
    }

    private static double[] pair(double low, double high) {
        return new double[] {low, high};
    }

    private static long[] bits(long low, long high) {
        return new long[] {low, high};
    }

    private static void pairs() {
        Checks.says("Promise 17: PAIR p is PLACES 2 * p and 2 * p + 1 (both are there)");
        int[] wrong = {Integer.MIN_VALUE, -1, 2, 1 << 30, (1 << 30) + 1, Integer.MAX_VALUE};
        for (int kind : Edges.KINDS) {
            for (int n = 4; n <= 5; n++) {
                ReckonBench bench = new ReckonBench();
                bench.row(n, Edges.single(kind));
                for (int p : wrong) {
                    Checks.refused("a " + p + " of " + n, bench, bench.interval(0, p, 0, 4), -9, 2);
                    Checks.refused("b " + p + " of " + n, bench, bench.interval(0, 0, p, 4), -9, 2);
                }
                Checks.due("a 1", bench.interval(0, 1, 0, 4), 0);
                Checks.due("b 1", bench.interval(0, 0, 1, 4), 0);
            }
            ReckonBench bench = Edges.benchOf(kind, 1);
            Checks.refused("one number", bench, bench.interval(0, 0, 0, 4), -9, 2);
            bench = Edges.benchOf(kind, 1, 2);
            Checks.due("two numbers", bench.interval(0, 0, 0, 4), 0);
            Checks.refused("no second pair", bench, bench.interval(0, 0, 1, 4), -9, 2);
            bench = new ReckonBench();
            bench.row(499, Edges.single(kind));
            Checks.due("the last pair", bench.interval(0, 248, 248, 5), 0);
            Checks.refused("half a pair", bench, bench.interval(0, 249, 0, 5), -9, 2);
        }
    }

    private static void whats() {
        Checks.says("Promise 17: what 0 ... 5");
        int[] wrong = {Integer.MIN_VALUE, -1, 6, Integer.MAX_VALUE};
        for (int kind : Edges.KINDS) {
            ReckonBench bench = Edges.benchOf(kind, 2, 1, 4, 5);
            for (int what : wrong) {
                Checks.refused("what " + what, bench, bench.interval(0, 0, 1, what), -9, 2);
            }
            Edges.rowIs("nothing came", bench, 0, Edges.bitsOf(kind, 2, 1, 4, 5));
            for (int what = 0; what <= 5; what++) {
                bench = Edges.benchOf(kind, 1, 4, 4, 5);
                Checks.due("what " + what, bench.interval(0, 0, 1, what), 0);
                Checks.due("answered", bench.status(), 0);
            }
        }
    }

    private static void pairBecomes() {
        Checks.says("Promise 17: PAIR a becomes, of PAIRS A (a) and B (b)");
        for (int kind : Edges.KINDS) {
            ReckonBench bench = Edges.benchOf(kind, 9, 5, 7, 6, 8, 9, 9);
            Checks.due("no INTERVAL", bench.interval(0, 2, 1, 4), 1);
            Edges.rowIs("A alone", bench, 0, Edges.bitsOf(kind, 9, 5, 7, 6, -INF, INF, 9));
            bench = Edges.benchOf(kind, 5, 7, 6, 8, 1, 2, 9);
            Checks.due("a behind b", bench.interval(0, 1, 0, 5), 0);
            Edges.rowIs("A alone", bench, 0, Edges.bitsOf(kind, 5, 7, 6, 7, 1, 2, 9));
            Checks.due("b behind a", bench.interval(0, 0, 2, 4), 0);
            Edges.rowIs("A alone", bench, 0, Edges.bitsOf(kind, 1, 7, 6, 7, 1, 2, 9));
        }
    }

    private static void sameOne() {
        Checks.says("Promise 17: PAIR a becomes, of PAIRS A (a) and B (b) [the same]");
        double[][] wanted = {{4, 8}, {-2, 2}, {4, 16}, {0.5, 2}};
        for (int kind : Edges.KINDS) {
            for (int what = 0; what < 6; what++) {
                ReckonBench bench = Edges.benchOf(kind, 2, 4);
                Checks.due("what " + what, bench.interval(0, 0, 0, what), 0);
                if (what < 4) {
                    bench.step(0, 0, 1);
                    bench.step(0, 1, -1);
                    Edges.rowIs("what " + what, bench, 0, Edges.bitsOf(kind, wanted[what]));
                } else {
                    Edges.rowIs("what " + what, bench, 0, Edges.bitsOf(kind, 2, 4));
                }
            }
        }
    }

    private static void nanIsNone() {
        Checks.says("Promise 17: an INTERVAL, unless one of them is NaN");
        for (int what = 0; what < 6; what++) {
            becomes(what, pair(NAN, 2), pair(1, 2), 1, -INF, INF);
            becomes(what, pair(1, NAN), pair(1, 2), 1, -INF, INF);
            becomes(what, pair(NAN, NAN), pair(1, 2), 1, -INF, INF);
            becomes(what, pair(1, 2), pair(NAN, 2), 1, -INF, INF);
            becomes(what, pair(1, 2), pair(1, NAN), 1, -INF, INF);
            becomes(what, pair(1, 2), pair(NAN, NAN), 1, -INF, INF);
        }
        becomes(4, pair(-INF, INF), pair(-INF, INF), 0, -INF, INF);
    }

    private static void lowAboveHigh() {
        Checks.says("Promise 17: ... or LOW above HIGH");
        for (int kind : Edges.KINDS) {
            long one = Edges.of(kind, 1);
            long minus = Edges.minusZero(kind);
            long bottom = Edges.minus(kind, Edges.infinite(kind));
            long top = Edges.infinite(kind);
            for (int what = 0; what < 6; what++) {
                becomes(kind, what, bits(one + 1, one), bits(one, one), 1, bottom, top);
                becomes(kind, what, bits(one, one), bits(one + 1, one), 1, bottom, top);
                becomes(kind, what, bits(top, bottom), bits(one, one), 1, bottom, top);
                becomes(kind, what, bits(minus | one, minus | one + 1), bits(one, one), 1, bottom, top);
            }
            becomes(kind, 4, bits(one, one), bits(one, one + 1), 0, one, one + 1);
            becomes(kind, 5, bits(one, one), bits(one, one + 1), 0, one, one);
            becomes(kind, 4, bits(minus | one + 1, minus | one), bits(one, one), 0, minus | one + 1, one);
            // 0 is not above -0.
            becomes(kind, 4, bits(0, minus), bits(minus, 0), 0, minus, 0);
            becomes(kind, 4, bits(0, minus), bits(0, minus), 0, 0, minus);
            becomes(kind, 4, bits(1, minus), bits(0, 0), 1, bottom, top);
        }
        becomes(4, pair(INF, INF), pair(-INF, -INF), 0, -INF, INF);
    }

    private static void sums() {
        Checks.says("Promise 17: what 0: LOW A + LOW B, HIGH A + HIGH B");
        widens(0, pair(1, 2), pair(3, 5), 4, 7);
        widens(0, pair(-1, 2), pair(-5, 3), -6, 5);
        widens(0, pair(1, INF), pair(3, INF), 4, INF);
        widens(0, pair(-INF, 1), pair(-INF, 3), -INF, 4);
        widens(0, pair(0.0, 0.0), pair(-0.0, -0.0), 0, 0);
    }

    private static void differences() {
        Checks.says("Promise 17: 1: LOW A - HIGH B, HIGH A - LOW B");
        widens(1, pair(1, 2), pair(3, 5), -4, -1);
        widens(1, pair(-1, 2), pair(-5, 3), -4, 7);
        widens(1, pair(1, INF), pair(-INF, 3), -2, INF);
        widens(1, pair(1, 1), pair(1, 1), 0, 0);
    }

    private static void products() {
        Checks.says("Promise 17: 2 ...: the lesser and the greater (as by act 2, 1) of the four products ... of LOW"
                + " or HIGH A by LOW or HIGH B");
        widens(2, pair(2, 3), pair(5, 7), 10, 21);
        widens(2, pair(-2, 3), pair(5, 7), -14, 21);
        widens(2, pair(-3, -2), pair(5, 7), -21, -10);
        widens(2, pair(2, 3), pair(-5, 7), -15, 21);
        widens(2, pair(-2, 3), pair(-5, 7), -15, 21);
        widens(2, pair(-3, 2), pair(-7, 5), -15, 21);
        widens(2, pair(-3, -2), pair(-5, 7), -21, 15);
        widens(2, pair(2, 3), pair(-7, -5), -21, -10);
        widens(2, pair(-2, 3), pair(-7, -5), -21, 14);
        widens(2, pair(-3, -2), pair(-7, -5), 10, 21);
        widens(2, pair(0, 3), pair(-0.0, 5), 0, 15);
        widens(2, pair(2, INF), pair(5, 7), 10, INF);
    }

    private static void quotients() {
        Checks.says("Promise 17: (3) ... the four ... (quotients) of LOW or HIGH A by LOW or HIGH B");
        widens(3, pair(1, 2), pair(4, 8), 0.125, 0.5);
        widens(3, pair(-1, 2), pair(4, 8), -0.25, 0.5);
        widens(3, pair(-2, -1), pair(4, 8), -0.5, -0.125);
        widens(3, pair(1, 2), pair(-8, -4), -0.5, -0.125);
        widens(3, pair(-1, 2), pair(-8, -4), -0.5, 0.25);
        widens(3, pair(-2, -1), pair(-8, -4), 0.125, 0.5);
        widens(3, pair(0, 0), pair(4, 8), 0, 0);
        widens(3, pair(1, 2), pair(4, INF), 0, 0.5);
        widens(3, pair(1, INF), pair(4, 8), 0.125, INF);
    }

    private static void nanCountsAsZero() {
        Checks.says("Promise 17: of which NaN counts as 0");
        widens(2, pair(0, 0), pair(INF, INF), 0, 0);
        widens(2, pair(0, 0), pair(-INF, INF), 0, 0);
        widens(2, pair(0, 1), pair(INF, INF), 0, INF);
        widens(2, pair(-1, 0), pair(INF, INF), -INF, 0);
        widens(2, pair(-INF, -INF), pair(-0.0, 0), 0, 0);
        widens(3, pair(INF, INF), pair(INF, INF), 0, 0);
        widens(3, pair(INF, INF), pair(1, INF), 0, INF);
        widens(3, pair(-INF, -INF), pair(1, INF), -INF, 0);
        widens(3, pair(1, INF), pair(-INF, -INF), 0, 0);
        widens(2, pair(1, 2), pair(INF, INF), INF, INF);
    }

    private static void outward() {
        Checks.says("Promise 17: by 0 to 3 each bound then becomes the next number outward (LOW DOWNWARD, HIGH"
                + " UPWARD");
        for (int kind : Edges.KINDS) {
            long minus = Edges.minusZero(kind);
            long one = Edges.of(kind, 1);
            long two = Edges.of(kind, 2);
            long[] ones = bits(one, one);
            long[] zeros = bits(0, 0);
            becomes(kind, 0, ones, zeros, 0, one - 1, one + 1);
            becomes(kind, 1, ones, zeros, 0, one - 1, one + 1);
            becomes(kind, 2, ones, ones, 0, one - 1, one + 1);
            becomes(kind, 3, ones, ones, 0, one - 1, one + 1);
            becomes(kind, 4, ones, ones, 0, one, one);
            becomes(kind, 5, ones, ones, 0, one, one);
            becomes(kind, 2, ones, bits(minus | two, minus | one), 0, minus | two + 1, minus | one - 1);
            becomes(kind, 0, zeros, zeros, 0, minus | 1, 1);
            becomes(kind, 0, bits(minus, minus), bits(minus, minus), 0, minus | 1, 1);
            // A zero that is come to is 0 from above, -0 from below.
            becomes(kind, 0, bits(1, 1), zeros, 0, 0, 2);
            becomes(kind, 0, bits(minus | 1, minus | 1), zeros, 0, minus | 2, minus);
            // Also what is rounded goes one step alone.
            becomes(kind, 2, bits(1, 1), bits(Edges.of(kind, 0.5), Edges.of(kind, 0.5)), 0, minus | 1, 1);
        }
    }

    private static void infiniteStays() {
        Checks.says("Promise 17: an INFINITE one that has none stays");
        for (int kind : Edges.KINDS) {
            long one = Edges.of(kind, 1);
            long top = Edges.infinite(kind);
            long bottom = Edges.minus(kind, top);
            long most = Edges.most(kind);
            long fewest = Edges.minus(kind, most);
            long[] ones = bits(one, one);
            becomes(kind, 0, bits(bottom, top), ones, 0, bottom, top);
            becomes(kind, 2, bits(bottom, top), ones, 0, bottom, top);
            // LOW has a next one DOWNWARD from INFINITE, HIGH UPWARD from -INFINITE.
            becomes(kind, 0, bits(top, top), ones, 0, most, top);
            becomes(kind, 0, bits(bottom, bottom), ones, 0, bottom, fewest);
            becomes(kind, 1, bits(top, top), ones, 0, most, top);
            becomes(kind, 3, bits(bottom, bottom), ones, 0, bottom, fewest);
            becomes(kind, 0, bits(most, most), bits(most, most), 0, most, top);
            becomes(kind, 2, bits(most, most), bits(fewest, fewest), 0, bottom, fewest);
            becomes(kind, 3, ones, bits(1, 1), 0, most, top);
            becomes(kind, 4, bits(top, top), ones, 0, one, top);
        }
    }

    private static void nanBound() {
        Checks.says("Promise 17: NaN becomes the INFINITE one of that side)");
        becomes(0, pair(-INF, INF), pair(INF, INF), 0, -INF, INF);
        becomes(0, pair(-INF, INF), pair(-INF, -INF), 0, -INF, INF);
        becomes(0, pair(INF, INF), pair(-INF, -INF), 0, -INF, INF);
        becomes(0, pair(-INF, -INF), pair(INF, INF), 0, -INF, INF);
        becomes(1, pair(INF, INF), pair(INF, INF), 0, -INF, INF);
        becomes(1, pair(-INF, -INF), pair(-INF, -INF), 0, -INF, INF);
        for (int kind : Edges.KINDS) {
            long one = Edges.of(kind, 1);
            long top = Edges.infinite(kind);
            long bottom = Edges.minus(kind, top);
            // One bound alone.
            becomes(kind, 0, bits(top, top), bits(bottom, one), 0, bottom, top);
            becomes(kind, 0, bits(bottom, bottom), bits(one, top), 0, bottom, top);
            becomes(kind, 1, bits(bottom, one), bits(bottom, one), 0, bottom, top);
            becomes(kind, 1, bits(one, top), bits(one, top), 0, bottom, top);
            // Neither of them: INFINITE - 1, INFINITE - 1.
            becomes(kind, 1, bits(top, top), bits(one, one), 0, Edges.most(kind), top);
        }
    }

    private static void around() {
        Checks.says("Promise 17: 4: the lesser LOW, the greater HIGH");
        becomes(4, pair(1, 2), pair(3, 5), 0, 1, 5);
        becomes(4, pair(3, 5), pair(1, 2), 0, 1, 5);
        becomes(4, pair(1, 5), pair(2, 3), 0, 1, 5);
        becomes(4, pair(1, 2), pair(-INF, -1), 0, -INF, 2);
        becomes(4, pair(0.0, 0.0), pair(-0.0, -0.0), 0, -0.0, 0.0);
        becomes(4, pair(-0.0, -0.0), pair(0.0, 0.0), 0, -0.0, 0.0);
        becomes(4, pair(0.0, -0.0), pair(0.0, -0.0), 0, 0.0, -0.0);
    }

    private static void common() {
        Checks.says("Promise 17: 5: the greater LOW, the lesser HIGH (by acts 2, 1).");
        becomes(5, pair(1, 4), pair(3, 5), 0, 3, 4);
        becomes(5, pair(3, 5), pair(1, 4), 0, 3, 4);
        becomes(5, pair(1, 5), pair(2, 3), 0, 2, 3);
        becomes(5, pair(1, 2), pair(-INF, INF), 0, 1, 2);
        becomes(5, pair(-0.0, 1), pair(0.0, 1), 0, 0.0, 1);
        becomes(5, pair(0.0, 1), pair(-0.0, 1), 0, 0.0, 1);
        becomes(5, pair(-1, -0.0), pair(-1, 0.0), 0, -1, -0.0);
        becomes(5, pair(-1, 0.0), pair(-1, -0.0), 0, -1, -0.0);
    }

    private static void noInterval() {
        Checks.says("Promise 17: Answers 0; 1: A or B is no INTERVAL ...: PAIR a is -INFINITE, INFINITE then");
        for (int what = 0; what < 6; what++) {
            becomes(what, pair(2, 1), pair(3, 4), 1, -INF, INF);
            becomes(what, pair(1, 2), pair(4, 3), 1, -INF, INF);
            becomes(what, pair(2, 1), pair(4, 3), 1, -INF, INF);
            becomes(what, pair(NAN, 1), pair(4, NAN), 1, -INF, INF);
            for (int kind : Edges.KINDS) {
                Checks.due("both are", Edges.benchOf(kind, 1, 4, 3, 4).interval(0, 0, 1, what), 0);
                Checks.due("bounds alike", Edges.benchOf(kind, 3, 3, 3, 3).interval(0, 0, 1, what), 0);
            }
        }
        // By 3 B may have 0 as well.
        becomes(3, pair(2, 1), pair(-1, 1), 1, -INF, INF);
    }

    private static void divisorWithZero() {
        Checks.says("Promise 17: ... or by 3 B has 0 (LOW <= 0 <= HIGH): PAIR a is -INFINITE, INFINITE then");
        becomes(3, pair(1, 2), pair(-1, 1), 1, -INF, INF);
        becomes(3, pair(1, 2), pair(0.0, 1), 1, -INF, INF);
        becomes(3, pair(1, 2), pair(-0.0, 1), 1, -INF, INF);
        becomes(3, pair(1, 2), pair(-1, 0.0), 1, -INF, INF);
        becomes(3, pair(1, 2), pair(-1, -0.0), 1, -INF, INF);
        becomes(3, pair(0.0, 0.0), pair(0.0, 0.0), 1, -INF, INF);
        becomes(3, pair(1, 2), pair(0.0, -0.0), 1, -INF, INF);
        becomes(3, pair(1, 2), pair(-INF, INF), 1, -INF, INF);
        widens(3, pair(-1, 2), pair(0.5, 1), -2, 4);
        for (int kind : Edges.KINDS) {
            long one = Edges.of(kind, 1);
            long top = Edges.infinite(kind);
            long bottom = Edges.minus(kind, top);
            becomes(kind, 3, bits(one, one), bits(1, 1), 0, Edges.most(kind), top);
            becomes(kind, 3, bits(one, one), bits(Edges.minus(kind, 1), Edges.minus(kind, 1)), 0, bottom,
                    Edges.minus(kind, Edges.most(kind)));
            becomes(kind, 3, bits(one, one), bits(Edges.minus(kind, 1), 1), 1, bottom, top);
            for (int what = 0; what < 6; what++) {
                int due = what == 3 ? 1 : 0;
                Checks.due("0 in B", Edges.benchOf(kind, 1, 4, -3, 4).interval(0, 0, 1, what), due);
                Checks.due("0 in A", Edges.benchOf(kind, -1, 4, 3, 4).interval(0, 0, 1, what), 0);
            }
        }
    }

    private static void nothingCommon() {
        Checks.says("Promise 17: 2: by 5 the LOW would be above the HIGH: both are NaN then.");
        becomes(5, pair(1, 2), pair(3, 4), 2, NAN, NAN);
        becomes(5, pair(3, 4), pair(1, 2), 2, NAN, NAN);
        becomes(5, pair(-INF, -INF), pair(INF, INF), 2, NAN, NAN);
        becomes(5, pair(1, 2), pair(2, 3), 0, 2, 2);
        becomes(5, pair(2, 3), pair(1, 2), 0, 2, 2);
        becomes(5, pair(-1, -0.0), pair(0.0, 1), 0, 0.0, -0.0);
        for (int kind : Edges.KINDS) {
            long one = Edges.of(kind, 1);
            long nan = Edges.nan(kind);
            becomes(kind, 5, bits(0, one), bits(one + 1, one + 2), 2, nan, nan);
            becomes(kind, 5, bits(0, one), bits(one, one + 2), 0, one, one);
            becomes(kind, 5, bits(1, one), bits(0, Edges.minusZero(kind)), 2, nan, nan);
            for (int what = 0; what < 5; what++) {
                Checks.due("by " + what, Edges.benchOf(kind, 1, 2, 3, 4).interval(0, 0, 1, what), 0);
            }
        }
    }
}
