/** For the tests that go through the document's sentences: bits of the same numbers in both kinds. */
final class Edges {
    static final int DOUBLE = 0;
    static final int SINGLE = 1;
    static final int[] KINDS = {DOUBLE, SINGLE};

    private Edges() {
    }

    static long nan(int kind) {
        return kind == DOUBLE ? Checks.NAN : Checks.NAN_S;
    }

    static long infinite(int kind) {
        return kind == DOUBLE ? Checks.INF : Checks.INF_S;
    }

    /** The greatest finite one. */
    static long most(int kind) {
        return infinite(kind) - 1;
    }

    /** Of -0, and the sign's bit alone. */
    static long minusZero(int kind) {
        return kind == DOUBLE ? Checks.MINUS : Checks.MINUS_S;
    }

    static long minus(int kind, long bits) {
        return bits ^ minusZero(kind);
    }

    static long of(int kind, double value) {
        return kind == DOUBLE ? Checks.d(value) : Checks.s((float) value);
    }

    /** As whether row makes a row of singles. */
    static boolean single(int kind) {
        return kind == SINGLE;
    }

    /** A bench whose row 0 has the numbers of these bits. */
    static ReckonBench bench(int kind, long... bits) {
        ReckonBench bench = new ReckonBench();
        bench.row(bits.length, single(kind));
        for (int i = 0; i < bits.length; i++) {
            bench.set(0, i, bits[i]);
        }
        return bench;
    }

    static ReckonBench benchOf(int kind, double... values) {
        return bench(kind, bitsOf(kind, values));
    }

    static long[] bitsOf(int kind, double... values) {
        long[] bits = new long[values.length];
        for (int i = 0; i < values.length; i++) {
            bits[i] = of(kind, values[i]);
        }
        return bits;
    }

    static void rowIs(String what, ReckonBench bench, int row, long... bits) {
        for (int i = 0; i < bits.length; i++) {
            Checks.due(what + ": place " + i, bench.get(row, i), bits[i]);
        }
    }

    /** The bits that place 2 of a new row gets by an act on these two. */
    static long acted(int kind, int what, long x, long y) {
        ReckonBench bench = bench(kind, x, y, 0);
        bench.act(0, what, 0, 1, 2);
        return bench.get(0, 2);
    }

    /** The bits that a number becomes in the other kind. */
    static long turned(int kind, long bits) {
        ReckonBench bench = bench(kind, bits);
        bench.row(1, !single(kind));
        bench.move(0, 0, 1, 0, true);
        return bench.get(1, 0);
    }

    /** The bits that a number becomes by a step. */
    static long stepped(int kind, long bits, int n) {
        ReckonBench bench = bench(kind, bits);
        bench.step(0, 0, n);
        return bench.get(0, 0);
    }
}
