/** The edges that promises 1 to 6 and 18 name, sentence by sentence. */
public final class PlaceEdgesTest {
    private static final int MOST_INT = Integer.MAX_VALUE;
    private static final int LEAST_INT = Integer.MIN_VALUE;

    public static void main(String[] args) {
        noRows();
        lengths();
        sixtyFour();
        fourThousand();
        set();
        whole();
        wholeThatNoNumberIs();
        get();
        cutTowardsZero();
        cutNarrow();
        cutNan();
        cutBeyond();
        moveToItsPlace();
        moveWithinARow();
        moveToDouble();
        moveToSingle();
        moveAsTheyAre();
        moveUnlike();
        Checks.end();
    }

    private static void noRows() {
        Checks.says("Promise 1: No ROWS.");
        ReckonBench bench = new ReckonBench();
        Checks.due("status", bench.status(), 0);
        Checks.refused("row 0", bench, bench.get(0, 0), 0, 1);
        Checks.refused("row 0", bench, bench.least(0), -9, 1);
        Checks.refused("row -1", bench, bench.sort(-1, 0), -9, 1);
        for (int row = 0; row < 8; row++) {
            Checks.due("room for 4000", bench.row(500, false), row);
        }
        bench = new ReckonBench();
        for (int row = 0; row < 64; row++) {
            Checks.due("room for 64", bench.row(1, true), row);
        }
    }

    private static void lengths() {
        Checks.says("Promise 2: A ROW of n NUMBERS (1 to 500): its number.");
        for (int kind : Edges.KINDS) {
            ReckonBench bench = new ReckonBench();
            int[] wrong = {LEAST_INT, -500, -1, 0, 501, 4000, MOST_INT};
            for (int n : wrong) {
                Checks.refused("row of " + n, bench, bench.row(n, Edges.single(kind)), -9, 2);
            }
            int[] right = {1, 2, 499, 500};
            for (int row = 0; row < right.length; row++) {
                int n = right[row];
                Checks.due("row of " + n, bench.row(n, Edges.single(kind)), row);
                Checks.due("answered", bench.status(), 0);
                Checks.due("its last place", bench.set(row, n - 1, 1), 1);
                Checks.refused("behind it", bench, bench.set(row, n, 1), -9, 2);
            }
        }
    }

    private static void sixtyFour() {
        Checks.says("Promise 2: 5: there are 64");
        for (int kind : Edges.KINDS) {
            ReckonBench bench = new ReckonBench();
            for (int row = 0; row < 63; row++) {
                bench.row(1, Edges.single(kind));
            }
            Checks.due("the 64th", bench.row(1, false), 63);
            Checks.due("answered", bench.status(), 0);
            Checks.refused("the 65th", bench, bench.row(1, Edges.single(kind)), -9, 5);
            Checks.refused("once more", bench, bench.row(500, Edges.single(kind)), -9, 5);
            Checks.refused("row 64", bench, bench.get(64, 0), 0, 1);
            Checks.due("row 63", bench.set(63, 0, 1), 1);
        }
    }

    private static void fourThousand() {
        Checks.says("Promise 2: or they would have more than 4000 NUMBERS together.");
        for (int kind : Edges.KINDS) {
            ReckonBench bench = new ReckonBench();
            for (int row = 0; row < 7; row++) {
                bench.row(500, row % 2 == kind);
            }
            Checks.due("3501", bench.row(1, Edges.single(kind)), 7);
            Checks.refused("4001", bench, bench.row(500, false), -9, 5);
            Checks.refused("4001", bench, bench.row(500, true), -9, 5);
            Checks.due("4000", bench.row(499, Edges.single(kind)), 8);
            Checks.due("answered", bench.status(), 0);
            Checks.refused("4001", bench, bench.row(1, Edges.single(kind)), -9, 5);
            Checks.due("the last place", bench.set(8, 498, 1), 1);
        }
        ReckonBench bench = new ReckonBench();
        for (int row = 0; row < 8; row++) {
            Checks.due("eight of 500", bench.row(500, true), row);
        }
        Checks.refused("a ninth", bench, bench.row(500, true), -9, 5);
        bench = new ReckonBench();
        for (int row = 0; row < 20; row++) {
            bench.row(501, false);
        }
        Checks.due("those refused took no room", bench.row(500, false), 0);
    }

    private static void set() {
        Checks.says("Promise 3: PLACE i gets the number of these BITS: its SORT.");
        for (int kind : Edges.KINDS) {
            long most = Edges.most(kind);
            ReckonBench bench = Edges.bench(kind, 5, 5, 5);
            Checks.refused("place -1", bench, bench.set(0, -1, 1), -9, 2);
            Checks.refused("place 3", bench, bench.set(0, 3, 1), -9, 2);
            Checks.due("place 0", bench.set(0, 0, most), 1);
            Checks.due("place 2", bench.set(0, 2, Edges.minusZero(kind)), 4);
            Edges.rowIs("these and none else", bench, 0, most, 5, Edges.minusZero(kind));
            Checks.due("once more", bench.set(0, 2, Edges.minusZero(kind) | 1), 5);
            Edges.rowIs("these and none else", bench, 0, most, 5, Edges.minusZero(kind) | 1);
        }
        ReckonBench bench = Edges.bench(Edges.SINGLE, 5, 5);
        Checks.due("the lowest 32 of 2^32 - 1", bench.set(0, 0, 4294967295L), 3);
        Checks.due("the lowest 32 of 2^32", bench.set(0, 0, 4294967296L), 0);
        Checks.due("the lowest 32 of -2^31", bench.set(0, 0, -2147483648L), 4);
        Edges.rowIs("these", bench, 0, Checks.MINUS_S, 5);
    }

    private static void whole() {
        Checks.says("Promise 4: PLACE i gets the whole VALUE v, ROUNDED: its SORT.");
        for (int kind : Edges.KINDS) {
            ReckonBench bench = Edges.bench(kind, Edges.minusZero(kind), 5, 5);
            Checks.refused("place -1", bench, bench.whole(0, -1, 1), -9, 2);
            Checks.refused("place 3", bench, bench.whole(0, 3, 1), -9, 2);
            Checks.due("0", bench.whole(0, 0, 0), 0);
            Checks.due("1", bench.whole(0, 2, 1), 1);
            Edges.rowIs("these and none else", bench, 0, 0, 5, Edges.of(kind, 1));
            Checks.due("-1", bench.whole(0, 2, -1), 5);
            Edges.rowIs("these and none else", bench, 0, 0, 5, Edges.of(kind, -1));
        }
    }

    private static void wholeIs(int kind, long v, double value) {
        ReckonBench bench = Edges.bench(kind, 0);
        Checks.due("sort of " + v, bench.whole(0, 0, v), v < 0 ? 5 : 1);
        Checks.due("bits of " + v, bench.get(0, 0), Edges.of(kind, value));
    }

    private static void wholeThatNoNumberIs() {
        Checks.says("Promise 4: ... ROUNDED [the longs that no number of the KIND is]");
        long top = 1L << 53;
        wholeIs(Edges.DOUBLE, top - 1, 0x1.fffffffffffffp52);
        wholeIs(Edges.DOUBLE, top, 0x1p53);
        wholeIs(Edges.DOUBLE, top + 1, 0x1p53);
        wholeIs(Edges.DOUBLE, top + 2, 0x1.0000000000001p53);
        wholeIs(Edges.DOUBLE, top + 3, 0x1.0000000000002p53);
        wholeIs(Edges.DOUBLE, -top - 1, -0x1p53);
        wholeIs(Edges.DOUBLE, -top - 3, -0x1.0000000000002p53);
        wholeIs(Edges.DOUBLE, Long.MAX_VALUE, 0x1p63);
        wholeIs(Edges.DOUBLE, Long.MAX_VALUE - 511, 0x1p63);
        wholeIs(Edges.DOUBLE, Long.MAX_VALUE - 512, 0x1.fffffffffffffp62);
        wholeIs(Edges.DOUBLE, Long.MIN_VALUE, -0x1p63);
        wholeIs(Edges.DOUBLE, Long.MIN_VALUE + 512, -0x1p63);
        wholeIs(Edges.DOUBLE, Long.MIN_VALUE + 513, -0x1.fffffffffffffp62);
        top = 1L << 24;
        wholeIs(Edges.SINGLE, top - 1, 0x1.fffffep23);
        wholeIs(Edges.SINGLE, top, 0x1p24);
        wholeIs(Edges.SINGLE, top + 1, 0x1p24);
        wholeIs(Edges.SINGLE, top + 2, 0x1.000002p24);
        wholeIs(Edges.SINGLE, top + 3, 0x1.000004p24);
        wholeIs(Edges.SINGLE, -top - 1, -0x1p24);
        wholeIs(Edges.SINGLE, -top - 3, -0x1.000004p24);
        wholeIs(Edges.SINGLE, Long.MAX_VALUE, 0x1p63);
        wholeIs(Edges.SINGLE, Long.MAX_VALUE - (1L << 38) + 1, 0x1p63);
        wholeIs(Edges.SINGLE, Long.MAX_VALUE - (1L << 38), 0x1.fffffep62);
        wholeIs(Edges.SINGLE, Long.MIN_VALUE, -0x1p63);
        // Rounded to a DOUBLE one first, it would stand as near to both.
        wholeIs(Edges.SINGLE, (1L << 60) + (1L << 36) + 1, 0x1.000002p60);
        wholeIs(Edges.SINGLE, (1L << 60) + (1L << 36), 0x1p60);
        wholeIs(Edges.SINGLE, (1L << 60) + (3L << 36) - 1, 0x1.000002p60);
    }

    private static void get() {
        Checks.says("Promise 5: The BITS at PLACE i.");
        for (int kind : Edges.KINDS) {
            ReckonBench bench = Edges.bench(kind, 5, 6, 7);
            Checks.refused("place -1", bench, bench.get(0, -1), 0, 2);
            Checks.refused("place 3", bench, bench.get(0, 3), 0, 2);
            Checks.due("place 0", bench.get(0, 0), 5);
            Checks.due("answered", bench.status(), 0);
            Checks.due("place 2", bench.get(0, 2), 7);
            Checks.due("place 2 once more", bench.get(0, 2), 7);
            bench.set(0, 0, 0);
            Checks.due("0 is no refusal", bench.get(0, 0), 0);
            Checks.due("0 is no refusal", bench.status(), 0);
            bench.set(0, 0, -1);
            Checks.due("NaN has BITS of its own", bench.get(0, 0), Edges.nan(kind));
        }
    }

    private static void cutIs(int kind, double value, long wide, int narrow) {
        long bits = Edges.of(kind, value);
        ReckonBench bench = Edges.bench(kind, bits);
        Checks.due("cut " + value, bench.cut(0, 0, false), wide);
        Checks.due("answered", bench.status(), 0);
        Checks.due("narrow cut " + value, bench.cut(0, 0, true), narrow);
        Checks.due("it stays", bench.get(0, 0), bits);
    }

    private static void cutTowardsZero() {
        Checks.says("Promise 6: The number at PLACE i cut off towards 0 as a long");
        for (int kind : Edges.KINDS) {
            double below1 = kind == Edges.DOUBLE ? Math.nextDown(1.0) : Math.nextDown(1f);
            double below2 = kind == Edges.DOUBLE ? Math.nextDown(2.0) : Math.nextDown(2f);
            cutIs(kind, 0.0, 0, 0);
            cutIs(kind, -0.0, 0, 0);
            cutIs(kind, below1, 0, 0);
            cutIs(kind, -below1, 0, 0);
            cutIs(kind, 1, 1, 1);
            cutIs(kind, -1, -1, -1);
            cutIs(kind, below2, 1, 1);
            cutIs(kind, -below2, -1, -1);
            cutIs(kind, 8388607.5, 8388607, 8388607);
            cutIs(kind, -8388607.5, -8388607, -8388607);
            cutIs(kind, 0x1p53, 1L << 53, MOST_INT);
            cutIs(kind, -0x1p62, -1L << 62, LEAST_INT);
            Checks.due("the least", Edges.bench(kind, 1).cut(0, 0, false), 0);
        }
        cutIs(Edges.DOUBLE, 4503599627370495.5, 4503599627370495L, MOST_INT);
        cutIs(Edges.DOUBLE, -4503599627370495.5, -4503599627370495L, LEAST_INT);
        ReckonBench bench = Edges.bench(Edges.DOUBLE, Checks.d(5));
        Checks.refused("place -1", bench, bench.cut(0, -1, false), 0, 2);
        Checks.refused("place 1", bench, bench.cut(0, 1, false), 0, 2);
    }

    private static void cutNarrow() {
        Checks.says("Promise 6: (as an int, if it is narrow)");
        cutIs(Edges.DOUBLE, 2147483646.5, 2147483646, 2147483646);
        cutIs(Edges.DOUBLE, 2147483647.0, MOST_INT, MOST_INT);
        cutIs(Edges.DOUBLE, Math.nextDown(2147483648.0), MOST_INT, MOST_INT);
        cutIs(Edges.DOUBLE, 2147483648.0, 2147483648L, MOST_INT);
        cutIs(Edges.DOUBLE, 4294967296.0, 4294967296L, MOST_INT);
        cutIs(Edges.DOUBLE, -2147483647.5, -2147483647, -2147483647);
        cutIs(Edges.DOUBLE, -2147483648.0, LEAST_INT, LEAST_INT);
        cutIs(Edges.DOUBLE, Math.nextUp(-2147483649.0), LEAST_INT, LEAST_INT);
        cutIs(Edges.DOUBLE, -2147483649.0, -2147483649L, LEAST_INT);
        cutIs(Edges.SINGLE, Math.nextDown(0x1p31f), 2147483520, 2147483520);
        cutIs(Edges.SINGLE, 0x1p31, 2147483648L, MOST_INT);
        cutIs(Edges.SINGLE, -0x1p31, LEAST_INT, LEAST_INT);
        cutIs(Edges.SINGLE, Math.nextDown(-0x1p31f), -2147483904L, LEAST_INT);
        cutIs(Edges.SINGLE, 0x1p32, 4294967296L, MOST_INT);
    }

    private static void cutNan() {
        Checks.says("Promise 6: NaN is 0");
        for (int kind : Edges.KINDS) {
            cutIs(kind, Double.NaN, 0, 0);
        }
    }

    private static void cutBeyond() {
        Checks.says("Promise 6: what is beyond, the least or the greatest long (int).");
        long most = Long.MAX_VALUE;
        long least = Long.MIN_VALUE;
        for (int kind : Edges.KINDS) {
            cutIs(kind, 0x1p63, most, MOST_INT);
            cutIs(kind, -0x1p63, least, LEAST_INT);
            cutIs(kind, 0x1p64, most, MOST_INT);
            cutIs(kind, -0x1p64, least, LEAST_INT);
            cutIs(kind, 0x1.8p64, most, MOST_INT);
            cutIs(kind, 0x1p127, most, MOST_INT);
            cutIs(kind, -0x1p127, least, LEAST_INT);
            cutIs(kind, Double.POSITIVE_INFINITY, most, MOST_INT);
            cutIs(kind, Double.NEGATIVE_INFINITY, least, LEAST_INT);
        }
        cutIs(Edges.DOUBLE, Math.nextDown(0x1p63), 9223372036854774784L, MOST_INT);
        cutIs(Edges.DOUBLE, Math.nextUp(-0x1p63), -9223372036854774784L, LEAST_INT);
        cutIs(Edges.DOUBLE, Math.nextDown(-0x1p63), least, LEAST_INT);
        cutIs(Edges.DOUBLE, Double.MAX_VALUE, most, MOST_INT);
        cutIs(Edges.SINGLE, Math.nextDown(0x1p63f), 9223371487098961920L, MOST_INT);
        cutIs(Edges.SINGLE, Math.nextUp(-0x1p63f), -9223371487098961920L, LEAST_INT);
        cutIs(Edges.SINGLE, Math.nextDown(-0x1p63f), least, LEAST_INT);
    }

    /** Row 0 of doubles, row 1 of singles, row 2 of doubles, row 3 of singles; 3, 5, 3 and 5 numbers. */
    private static ReckonBench fourRows() {
        ReckonBench bench = new ReckonBench();
        for (int row = 0; row < 4; row++) {
            bench.row(row % 2 == 0 ? 3 : 5, row % 2 == 1);
        }
        return bench;
    }

    private static void moveToItsPlace() {
        Checks.says("Promise 18: PLACE j of ROW other gets the number at PLACE i of this one, turned into its"
                + " KIND: its SORT there");
        ReckonBench bench = fourRows();
        bench.set(0, 2, 1);
        bench.set(1, 4, Checks.MINUS_S | 1);
        Checks.due("the last place", bench.move(0, 2, 2, 0, false), 1);
        Checks.due("to the last place", bench.move(1, 4, 3, 4, false), 5);
        Checks.due("its SORT there, not here", bench.move(0, 2, 1, 0, true), 0);
        Checks.due("its SORT there, not here", bench.move(2, 2, 3, 0, true), 0);
        Edges.rowIs("source", bench, 0, 0, 0, 1);
        Edges.rowIs("source", bench, 1, 0, 0, 0, 0, Checks.MINUS_S | 1);
        Edges.rowIs("target", bench, 2, 1, 0, 0);
        Edges.rowIs("target", bench, 3, 0, 0, 0, 0, Checks.MINUS_S | 1);
        Checks.refused("i is a place of this one", bench, bench.move(0, 3, 1, 0, true), -9, 2);
        Checks.refused("j is a place of the other", bench, bench.move(1, 0, 0, 3, true), -9, 2);
        Checks.due("i beyond the other's places", bench.move(1, 4, 0, 2, true), 5);
        Checks.due("j beyond this one's places", bench.move(0, 2, 1, 4, true), 5);
        int[] wrong = {LEAST_INT, -1, 5, MOST_INT};
        for (int i : wrong) {
            Checks.refused("i " + i, bench, bench.move(1, i, 3, 0, false), -9, 2);
            Checks.refused("j " + i, bench, bench.move(1, 0, 3, i, false), -9, 2);
        }
    }

    private static void moveWithinARow() {
        Checks.says("Promise 18: PLACE j of ROW other gets the number at PLACE i of this one [the same ROW]");
        for (int kind : Edges.KINDS) {
            ReckonBench bench = Edges.bench(kind, 5, Edges.minusZero(kind), -1);
            Checks.due("upward", bench.move(0, 1, 0, 2, false), 4);
            Edges.rowIs("upward", bench, 0, 5, Edges.minusZero(kind), Edges.minusZero(kind));
            Checks.due("downward, told to turn", bench.move(0, 0, 0, 2, true), 1);
            Edges.rowIs("downward", bench, 0, 5, Edges.minusZero(kind), 5);
            Checks.due("to itself", bench.move(0, 0, 0, 0, false), 1);
            Checks.due("answered", bench.status(), 0);
            Edges.rowIs("to itself", bench, 0, 5, Edges.minusZero(kind), 5);
        }
    }

    private static void moveToDouble() {
        Checks.says("Promise 18: (SINGLE to DOUBLE: the same VALUE");
        long[] tried = {1, 2, 3, 0x400000, 0x7FFFFF, 0x800000, 0x800001, Checks.s(1), Checks.s(1) + 1,
            Checks.s(1) - 1, Checks.INF_S - 1};
        for (long bits : tried) {
            double value = Checks.toSingle(bits);
            Checks.due("single " + bits, Edges.turned(Edges.SINGLE, bits), Checks.d(value));
            Checks.due("single -" + bits, Edges.turned(Edges.SINGLE, Checks.MINUS_S | bits), Checks.d(-value));
        }
        Checks.due("the least", Edges.turned(Edges.SINGLE, 1), 0x36A0000000000000L);
        Checks.due("the greatest", Edges.turned(Edges.SINGLE, 0x7F7FFFFF), 0x47EFFFFFE0000000L);
    }

    private static void moveToSingle() {
        Checks.says("Promise 18: DOUBLE to SINGLE: ROUNDED");
        double[][] tried = {
            {0.1, 0.1f}, {1 + 0x1p-23, 1 + 0x1p-23}, {1 + 0x1p-24, 1}, {1 + 0x1.8p-23, 1 + 0x1p-22},
            {Math.nextUp(1 + 0x1p-24), 1 + 0x1p-23}, {0x1.fffffep127, 0x1.fffffep127},
            {Math.nextDown(0x1.ffffffp127), 0x1.fffffep127}, {0x1.ffffffp127, Double.POSITIVE_INFINITY},
            {0x1p-126, 0x1p-126}, {0x1.fffffep-127, 0x1p-126}, {0x1.fffffcp-127, 0x1.fffffcp-127},
            {0x1p-149, 0x1p-149}, {0x1.8p-149, 0x1p-148}, {0x1p-150, 0.0}, {Math.nextUp(0x1p-150), 0x1p-149},
            {Double.MIN_VALUE, 0.0}, {Double.MAX_VALUE, Double.POSITIVE_INFINITY},
        };
        for (double[] pair : tried) {
            Checks.due("double " + pair[0], Edges.turned(Edges.DOUBLE, Checks.d(pair[0])), Checks.s((float) pair[1]));
            Checks.due("double -" + pair[0], Edges.turned(Edges.DOUBLE, Checks.d(-pair[0])),
                    Checks.s(-(float) pair[1]));
        }
    }

    private static void moveAsTheyAre() {
        Checks.says("Promise 18: zeros, INFINITE ones and NaN as they are).");
        for (int kind : Edges.KINDS) {
            int other = 1 - kind;
            long minus = Edges.minusZero(kind);
            long infinite = Edges.infinite(kind);
            Checks.due("0", Edges.turned(kind, 0), 0);
            Checks.due("-0", Edges.turned(kind, minus), Edges.minusZero(other));
            Checks.due("INFINITE", Edges.turned(kind, infinite), Edges.infinite(other));
            Checks.due("-INFINITE", Edges.turned(kind, minus | infinite), Edges.minus(other, Edges.infinite(other)));
            Checks.due("NaN", Edges.turned(kind, infinite + 1), Edges.nan(other));
            Checks.due("NaN", Edges.turned(kind, -1), Edges.nan(other));
            ReckonBench bench = Edges.bench(kind, 0, minus, infinite, minus | infinite, -1);
            bench.row(1, !Edges.single(kind));
            int[] sorts = {0, 4, 2, 6, 3};
            for (int i = 0; i < 5; i++) {
                Checks.due("sort of place " + i, bench.move(0, i, 1, 0, true), sorts[i]);
            }
        }
    }

    private static void moveUnlike() {
        Checks.says("Promise 18: 3: the KINDS are unlike, and turns is false.");
        ReckonBench bench = fourRows();
        bench.whole(0, 0, 5);
        bench.whole(1, 0, 6);
        Checks.refused("DOUBLE to SINGLE", bench, bench.move(0, 0, 1, 1, false), -9, 3);
        Checks.refused("SINGLE to DOUBLE", bench, bench.move(1, 0, 0, 1, false), -9, 3);
        Checks.due("nothing came", bench.get(0, 1), 0);
        Checks.due("nothing came", bench.get(1, 1), 0);
        Checks.due("DOUBLE to DOUBLE", bench.move(0, 0, 2, 1, false), 1);
        Checks.due("answered", bench.status(), 0);
        Checks.due("SINGLE to SINGLE", bench.move(1, 0, 3, 1, false), 1);
        Checks.due("DOUBLE to DOUBLE, told to turn", bench.move(0, 0, 2, 2, true), 1);
        Checks.due("DOUBLE to SINGLE, told to turn", bench.move(0, 0, 1, 1, true), 1);
        Checks.due("answered", bench.status(), 0);
        Checks.due("5 came", bench.get(1, 1), Checks.s(5));
        Checks.due("SINGLE to DOUBLE, told to turn", bench.move(1, 0, 0, 1, true), 1);
        Checks.due("6 came", bench.get(0, 1), Checks.d(6));
        Checks.refused("zeros too", bench, bench.move(0, 2, 1, 2, false), -9, 3);
    }
}
