import java.util.Random;

/** Promises 3 (set), 4 (whole), 5 (get), 6 (cut) and 18 (move). */
public final class PlaceTest {
    public static void main(String[] args) {
        setDoubles();
        setSingles();
        wholes();
        cuts();
        moves();
        anyWhole();
        anyCut();
        anyMove();
        wrongInputs();
        Checks.end();
    }

    private static void setAndGet(ReckonBench bench, int row, long bits, int sort, long kept) {
        Checks.due("3: set " + bits, bench.set(row, 1, bits), sort);
        Checks.due("3: status behind it", bench.status(), 0);
        Checks.due("5: get of " + bits, bench.get(row, 1), kept);
    }

    private static void setDoubles() {
        ReckonBench bench = new ReckonBench();
        bench.row(3, false);
        setAndGet(bench, 0, 0, 0, 0);
        setAndGet(bench, 0, Checks.MINUS, 4, Checks.MINUS);
        setAndGet(bench, 0, 1, 1, 1);
        setAndGet(bench, 0, Checks.MINUS | 1, 5, Checks.MINUS | 1);
        setAndGet(bench, 0, Checks.d(1.5), 1, Checks.d(1.5));
        setAndGet(bench, 0, Checks.d(-1.5), 5, Checks.d(-1.5));
        setAndGet(bench, 0, Checks.INF - 1, 1, Checks.INF - 1);
        setAndGet(bench, 0, Checks.INF, 2, Checks.INF);
        setAndGet(bench, 0, Checks.INF | Checks.MINUS, 6, Checks.INF | Checks.MINUS);
        long[] nans = {Checks.NAN, Checks.INF + 1, -1, Long.MAX_VALUE, Checks.NAN | Checks.MINUS,
            Checks.INF + 1 | Checks.MINUS, Checks.NAN + 12345};
        for (long nan : nans) {
            setAndGet(bench, 0, nan, 3, 9221120237041090560L);
        }
        Checks.due("3: the places beside it", bench.get(0, 0), 0);
        Checks.due("3: the places beside it", bench.get(0, 2), 0);
    }

    private static void setSingles() {
        ReckonBench bench = new ReckonBench();
        bench.row(3, false);
        bench.row(3, true);
        setAndGet(bench, 1, 0, 0, 0);
        setAndGet(bench, 1, Checks.MINUS_S, 4, Checks.MINUS_S);
        setAndGet(bench, 1, 1, 1, 1);
        setAndGet(bench, 1, Checks.MINUS_S | 1, 5, Checks.MINUS_S | 1);
        setAndGet(bench, 1, Checks.s(-1.5f), 5, Checks.s(-1.5f));
        setAndGet(bench, 1, Checks.INF_S - 1, 1, Checks.INF_S - 1);
        setAndGet(bench, 1, Checks.INF_S, 2, Checks.INF_S);
        setAndGet(bench, 1, Checks.INF_S | Checks.MINUS_S, 6, Checks.INF_S | Checks.MINUS_S);
        long[] nans = {Checks.NAN_S, Checks.INF_S + 1, -1, 0x7FFFFFFF, 0xFFFFFFFFL, Checks.NAN_S | Checks.MINUS_S};
        for (long nan : nans) {
            setAndGet(bench, 1, nan, 3, 2143289344L);
        }
        // Only the lowest 32 bits of the long count.
        setAndGet(bench, 1, 0x1234567800000000L, 0, 0);
        setAndGet(bench, 1, Checks.MINUS, 0, 0);
        setAndGet(bench, 1, 0xFFFFFFFF00000000L | Checks.s(2.5f), 1, Checks.s(2.5f));
        setAndGet(bench, 1, (int) Checks.MINUS_S, 4, Checks.MINUS_S);
        setAndGet(bench, 1, Checks.NAN, 0, 0);
    }

    private static void wholeAs(ReckonBench bench, int row, long v, int sort, long bits) {
        Checks.due("4: whole " + v, bench.whole(row, 0, v), sort);
        Checks.due("4: status behind it", bench.status(), 0);
        Checks.due("4: bits of " + v, bench.get(row, 0), bits);
    }

    private static void wholes() {
        ReckonBench bench = new ReckonBench();
        bench.row(1, false);
        bench.row(1, true);
        wholeAs(bench, 0, 0, 0, 0);
        wholeAs(bench, 0, 3, 1, Checks.d(3));
        wholeAs(bench, 0, -3, 5, Checks.d(-3));
        wholeAs(bench, 0, 9007199254740993L, 1, Checks.d(9007199254740992.0));
        wholeAs(bench, 0, 9007199254740995L, 1, Checks.d(9007199254740996.0));
        wholeAs(bench, 0, Long.MAX_VALUE, 1, 0x43E0000000000000L);
        wholeAs(bench, 0, Long.MIN_VALUE, 5, 0xC3E0000000000000L);
        wholeAs(bench, 1, 0, 0, 0);
        wholeAs(bench, 1, -1, 5, Checks.s(-1));
        wholeAs(bench, 1, 16777217, 1, Checks.s(16777216f));
        wholeAs(bench, 1, 16777219, 1, Checks.s(16777220f));
        wholeAs(bench, 1, Long.MAX_VALUE, 1, 0x5F000000L);
        wholeAs(bench, 1, Long.MIN_VALUE, 5, 0xDF000000L);
        // A detour by a double would go the other way.
        wholeAs(bench, 1, (1L << 60) + (1L << 36) + 1, 1, Checks.s((float) (1L << 60)) + 1);
    }

    private static void anyWhole() {
        Random random = new Random(4);
        for (int round = 0; round < 400; round++) {
            ReckonBench bench = new ReckonBench();
            bench.row(1, false);
            bench.row(1, true);
            for (int i = 0; i < 80; i++) {
                long v = random.nextLong() >> random.nextInt(64);
                if (random.nextBoolean()) {
                    v = (v & -1L << random.nextInt(40)) + random.nextInt(3) - 1;
                }
                int sort = v == 0 ? 0 : v > 0 ? 1 : 5;
                wholeAs(bench, 0, v, sort, Checks.d((double) v));
                wholeAs(bench, 1, v, sort, Checks.s((float) v));
            }
        }
    }

    private static void cutAs(ReckonBench bench, double x, long wide, int narrow) {
        bench.set(0, 0, Checks.d(x));
        Checks.due("6: cut " + x, bench.cut(0, 0, false), wide);
        Checks.due("6: status behind it", bench.status(), 0);
        Checks.due("6: narrow cut " + x, bench.cut(0, 0, true), narrow);
        Checks.due("6: it stays", bench.get(0, 0), Checks.d(x));
        if ((float) x == x || Double.isNaN(x)) {
            bench.set(1, 0, Checks.s((float) x));
            Checks.due("6: cut of single " + x, bench.cut(1, 0, false), wide);
            Checks.due("6: narrow cut of single " + x, bench.cut(1, 0, true), narrow);
        }
    }

    private static void cuts() {
        ReckonBench bench = new ReckonBench();
        bench.row(1, false);
        bench.row(1, true);
        int most = Integer.MAX_VALUE;
        int fewest = Integer.MIN_VALUE;
        cutAs(bench, Double.NaN, 0, 0);
        cutAs(bench, -0.0, 0, 0);
        cutAs(bench, 0.75, 0, 0);
        cutAs(bench, -0.75, 0, 0);
        cutAs(bench, 2.75, 2, 2);
        cutAs(bench, -2.75, -2, -2);
        cutAs(bench, Double.MIN_VALUE, 0, 0);
        cutAs(bench, 2147483647.5, 2147483647L, most);
        cutAs(bench, 2147483648.0, 2147483648L, most);
        cutAs(bench, -2147483648.5, -2147483648L, fewest);
        cutAs(bench, -2147483650.0, -2147483650L, fewest);
        cutAs(bench, 9223372036854774784.0, 9223372036854774784L, most);
        cutAs(bench, 9223372036854775808.0, Long.MAX_VALUE, most);
        cutAs(bench, -9223372036854775808.0, Long.MIN_VALUE, fewest);
        cutAs(bench, 1e300, Long.MAX_VALUE, most);
        cutAs(bench, -1e300, Long.MIN_VALUE, fewest);
        cutAs(bench, Double.POSITIVE_INFINITY, Long.MAX_VALUE, most);
        cutAs(bench, Double.NEGATIVE_INFINITY, Long.MIN_VALUE, fewest);
    }

    private static void anyCut() {
        Random random = new Random(6);
        for (int round = 0; round < 2400; round++) {
            ReckonBench bench = new ReckonBench();
            bench.row(1, false);
            bench.row(1, true);
            for (int i = 0; i < 20; i++) {
                double x = Checks.someDouble(random);
                cutAs(bench, x, (long) x, (int) x);
                double y = Checks.someSingle(random);
                cutAs(bench, y, (long) y, (int) y);
                double z = random.nextLong() / 1024.0;
                cutAs(bench, z, (long) z, (int) z);
            }
        }
    }

    private static void moved(ReckonBench bench, double x) {
        bench.set(0, 1, Checks.d(x));
        float turned = (float) x;
        Checks.due("18: move " + x, bench.move(0, 1, 1, 2, true), sort(turned));
        Checks.due("18: status behind it", bench.status(), 0);
        Checks.due("18: single of " + x, bench.get(1, 2), Checks.s(turned));
        Checks.due("18: back", bench.move(1, 2, 0, 2, true), sort(turned));
        Checks.due("18: double of " + turned, bench.get(0, 2), Checks.d((double) turned));
        Checks.due("18: alike kinds", bench.move(0, 1, 2, 0, false), sort(x));
        Checks.due("18: the same", bench.get(2, 0), Checks.d(x));
    }

    private static int sort(double x) {
        if (Double.isNaN(x)) {
            return 3;
        }
        int plain = x == 0 ? 0 : Double.isInfinite(x) ? 2 : 1;
        return Math.copySign(1, x) < 0 ? plain + 4 : plain;
    }

    private static ReckonBench threeRows() {
        ReckonBench bench = new ReckonBench();
        bench.row(3, false);
        bench.row(3, true);
        bench.row(3, false);
        return bench;
    }

    private static void moves() {
        ReckonBench bench = threeRows();
        double[] tried = {0.0, -0.0, 1.5, -1.5, 0.1, Double.POSITIVE_INFINITY, Double.NEGATIVE_INFINITY, Double.NaN,
            Double.MIN_VALUE, -Double.MIN_VALUE, Double.MAX_VALUE, -1e300, Float.MIN_VALUE, Float.MIN_VALUE / 2.0,
            Math.nextUp(Float.MIN_VALUE / 2.0), Float.MIN_VALUE * 1.5, Float.MAX_VALUE, 0x1.ffffffp127,
            Math.nextDown(0x1.ffffffp127), 0x1p128, 1 + 0x1p-24, 1 + 0x1.8p-23, 0x1.fffffep-127, 0x1.ffffffp-127};
        for (double x : tried) {
            moved(bench, x);
        }
        bench = threeRows();
        bench.set(1, 0, 0x7FFFFF);
        Checks.due("18: the greatest subnormal", bench.move(1, 0, 0, 0, true), 1);
        Checks.due("18: its double", bench.get(0, 0), Checks.d(Checks.toSingle(0x7FFFFF)));
        Checks.due("18: within a row", bench.move(0, 0, 0, 2, false), 1);
        Checks.due("18: within a row", bench.get(0, 2), Checks.d(Checks.toSingle(0x7FFFFF)));
        Checks.refused("18: unlike kinds", bench, bench.move(0, 2, 1, 1, false), -9, 3);
        Checks.refused("18: unlike kinds", bench, bench.move(1, 0, 0, 1, false), -9, 3);
        Checks.due("18: nothing changed", bench.get(0, 1), 0);
        Checks.due("18: nothing changed", bench.get(1, 1), 0);
    }

    private static void anyMove() {
        Random random = new Random(18);
        for (int round = 0; round < 800; round++) {
            ReckonBench bench = threeRows();
            for (int i = 0; i < 30; i++) {
                moved(bench, Checks.someDouble(random));
                moved(bench, Checks.nearSingleTie(random));
            }
        }
    }

    private static void wrongInputs() {
        ReckonBench bench = threeRows();
        int[] rows = {-1, 3, 64, Integer.MIN_VALUE, Integer.MAX_VALUE};
        for (int row : rows) {
            Checks.refused("3: row " + row, bench, bench.set(row, 9, 1), -9, 1);
            Checks.refused("4: row " + row, bench, bench.whole(row, -1, 1), -9, 1);
            Checks.refused("5: row " + row, bench, bench.get(row, 3), 0, 1);
            Checks.refused("6: row " + row, bench, bench.cut(row, 3, true), 0, 1);
            Checks.refused("18: row " + row, bench, bench.move(row, 3, 7, 9, false), -9, 1);
            Checks.refused("18: other row " + row, bench, bench.move(1, 0, row, 0, false), -9, 2);
        }
        int[] places = {-1, 3, 500, Integer.MIN_VALUE, Integer.MAX_VALUE};
        for (int i : places) {
            Checks.refused("3: place " + i, bench, bench.set(0, i, 1), -9, 2);
            Checks.refused("4: place " + i, bench, bench.whole(0, i, 1), -9, 2);
            Checks.refused("5: place " + i, bench, bench.get(0, i), 0, 2);
            Checks.refused("6: place " + i, bench, bench.cut(0, i, false), 0, 2);
            Checks.refused("18: place " + i, bench, bench.move(0, i, 1, 0, false), -9, 2);
            Checks.refused("18: other place " + i, bench, bench.move(0, 0, 1, i, false), -9, 2);
        }
        for (int row = 0; row < 3; row++) {
            for (int i = 0; i < 3; i++) {
                Checks.due("refusals change nothing", bench.get(row, i), 0);
            }
        }
    }
}
