import java.util.Arrays;
import java.util.Random;

/** Promises 7 (compare), 8 (between), 9 (total), 10 (sort), 13 (least), 14 (greatest) and 16 (find). */
public final class OrderTest {
    private static final double INF = Double.POSITIVE_INFINITY;
    private static final double[] ORDERED = {-INF, -Double.MAX_VALUE, -2.5, -1, -Double.MIN_VALUE, -0.0,
        0.0, Double.MIN_VALUE, 1, 2.5, Double.MAX_VALUE, INF, Double.NaN};

    public static void main(String[] args) {
        relations();
        betweens();
        sorts();
        sortOfManyByValue();
        anySort();
        extremes();
        finds();
        wrongInputs();
        Checks.end();
    }

    private static void relations() {
        for (int i = 0; i < ORDERED.length; i++) {
            ReckonBench bench = Checks.with(ORDERED);
            for (int j = 0; j < ORDERED.length; j++) {
                double x = ORDERED[i];
                double y = ORDERED[j];
                int want = x != x || y != y ? 32 : x < y ? 41 : x > y ? 52 : 26;
                for (int row = 0; row < 2; row++) {
                    Checks.due("7: " + x + " and " + y, bench.compare(row, i, j), want);
                    Checks.due("7: status behind it", bench.status(), 0);
                    Checks.due("9: " + x + " and " + y, bench.total(row, i, j), Integer.compare(i, j));
                    Checks.due("9: status behind it", bench.status(), 0);
                }
            }
        }
    }

    private static void betweens() {
        for (int i = 0; i < ORDERED.length; i++) {
            for (int lo = 0; lo < ORDERED.length; lo++) {
                ReckonBench bench = Checks.with(ORDERED);
                for (int hi = 0; hi < ORDERED.length; hi++) {
                    double x = ORDERED[i];
                    double low = ORDERED[lo];
                    double high = ORDERED[hi];
                    int want = low <= x && x <= high ? 1 : 0;
                    want += x < low || x > high ? 0 : 2;
                    String told = "8: " + x + " of " + low + " to " + high;
                    Checks.due(told, bench.between(0, i, lo, hi), want);
                    Checks.due(told, bench.between(1, i, lo, hi), want);
                    Checks.due("8: status behind it", bench.status(), 0);
                }
            }
        }
        ReckonBench bench = Checks.with(1, 2, 3, Double.NaN);
        Checks.due("8: inside", bench.between(0, 1, 0, 2), 3);
        Checks.due("8: at the bound", bench.between(0, 0, 0, 0), 3);
        Checks.due("8: outside", bench.between(0, 0, 1, 2), 0);
        Checks.due("8: bounds turned about", bench.between(0, 1, 2, 0), 0);
        Checks.due("8: NaN", bench.between(0, 3, 0, 2), 2);
    }

    private static void sorted(ReckonBench bench, int way, int moved, double... wanted) {
        for (int row = 0; row < 2; row++) {
            Checks.due("10: way " + way + ", moved", bench.sort(row, way), moved);
            Checks.due("10: status behind it", bench.status(), 0);
            for (int i = 0; i < wanted.length; i++) {
                long want = row == 0 ? Checks.d(wanted[i]) : Checks.s(Checks.single(wanted[i]));
                Checks.due("10: way " + way + ", row " + row + ", place " + i, bench.get(row, i), want);
            }
            Checks.due("10: once more", bench.sort(row, way), 0);
        }
    }

    private static void sorts() {
        double nan = Double.NaN;
        sorted(Checks.with(3, nan, -0.0, INF, 0.0, -INF, -3), 0, 6, -INF, -3, -0.0, 0.0, 3, INF, nan);
        sorted(Checks.with(3, nan, -0.0, INF, 0.0, -INF, -3), 1, 7, nan, INF, 3, 0.0, -0.0, -3, -INF);
        sorted(Checks.with(3, nan, -0.0, INF, 0.0, -INF, -3), 2, 6, -0.0, 0.0, 3, -3, INF, -INF, nan);
        sorted(Checks.with(-3, 0.0, 3, -0.0, -INF, INF), 2, 4, 0.0, -0.0, -3, 3, -INF, INF);
        sorted(Checks.with(1, 2, 3), 0, 0, 1, 2, 3);
        sorted(Checks.with(1, 3, 2, 4), 0, 2, 1, 2, 3, 4);
        sorted(Checks.with(2, 2, 1, 2), 0, 2, 1, 2, 2, 2);
        sorted(Checks.with(nan, nan, 1, 1), 0, 4, 1, 1, nan, nan);
        sorted(Checks.with(7), 1, 0, 7);
        sorted(Checks.with(ORDERED), 0, 0, ORDERED);
    }

    /** Of 500 that differ by their signs alone, each value's signs must stay in their order. */
    private static void sortOfManyByValue() {
        Random random = new Random(10);
        ReckonBench bench = new ReckonBench();
        bench.row(500, false);
        Double[] numbers = new Double[500];
        for (int i = 0; i < 500; i++) {
            numbers[i] = (random.nextBoolean() ? 1 : -1) * (double) random.nextInt(9);
            bench.set(0, i, Checks.d(numbers[i]));
        }
        Double[] wanted = numbers.clone();
        Arrays.sort(wanted, (x, y) -> Double.compare(Math.abs(x), Math.abs(y)));
        int moved = 0;
        for (int i = 0; i < 500; i++) {
            moved += numbers[i].equals(wanted[i]) ? 0 : 1;
        }
        // The object has had 501 calls, so few places can be looked at.
        Checks.due("10: of 500", bench.sort(0, 2), moved);
        for (int i = 0; i < 9; i++) {
            Checks.due("10: place of 500", bench.get(0, 61 * i), Checks.d(wanted[61 * i]));
        }
    }

    private static void anySort() {
        Random random = new Random(100);
        for (int round = 0; round < 3000; round++) {
            int n = 1 + random.nextInt(40);
            boolean single = random.nextBoolean();
            int way = random.nextInt(3);
            ReckonBench bench = new ReckonBench();
            Model model = new Model();
            bench.row(n, single);
            model.row(n, single);
            for (int i = 0; i < n; i++) {
                long bits = Checks.someBits(random, single, true);
                bench.set(0, i, bits);
                model.set(0, i, bits);
            }
            Checks.due("10: of " + n + ", way " + way, bench.sort(0, way), model.sort(0, way));
            for (int i = 0; i < n; i++) {
                Checks.due("10: place " + i + " of " + n, bench.get(0, i), model.get(0, i));
            }
        }
    }

    private static void extremesAre(int least, int greatest, double... numbers) {
        ReckonBench bench = Checks.with(numbers);
        for (int row = 0; row < 2; row++) {
            Checks.due("13: least of " + Arrays.toString(numbers), bench.least(row), least);
            Checks.due("13: status behind it", bench.status(), 0);
            Checks.due("14: greatest of " + Arrays.toString(numbers), bench.greatest(row), greatest);
            Checks.due("14: status behind it", bench.status(), 0);
        }
    }

    private static void extremes() {
        double nan = Double.NaN;
        extremesAre(0, 0, 5);
        extremesAre(-1, -1, nan);
        extremesAre(-1, -1, nan, nan, nan);
        extremesAre(1, 1, nan, 5, nan);
        extremesAre(2, 0, 3, 1, -4, 2);
        extremesAre(1, 2, 0, -1, 1, 1, -1);
        extremesAre(0, 0, 0.0, -0.0);
        extremesAre(0, 0, -0.0, 0.0);
        extremesAre(3, 1, nan, INF, INF, -INF, -INF, 1);
        extremesAre(1, 1, nan, INF);
        extremesAre(0, 0, -INF, nan);
        extremesAre(0, 12 - 1, ORDERED);
        extremesAre(1, 0, Double.MIN_VALUE, -Double.MIN_VALUE, 0);
    }

    private static void finds() {
        ReckonBench bench = Checks.with(-1, -0.0, -0.0, 0.0, 2, 2, Double.NaN, Double.NaN);
        found(bench, 0, Checks.d(-1), Checks.d(-0.0), Checks.d(0.0), Checks.d(2), Checks.d(1), Checks.NAN);
        found(bench, 1, Checks.s(-1f), Checks.s(-0f), Checks.s(0f), Checks.s(2f), Checks.s(1f), Checks.NAN_S);
        Checks.due("16: another NaN", bench.find(0, -1), 6);
        Checks.due("16: another NaN", bench.find(1, 0x7F800001), 6);
        Checks.due("16: the lowest 32 count", bench.find(1, 0x5500000000000000L | Checks.s(2f)), 4);
        Checks.due("16: all the bits count", bench.find(0, Checks.s(2f)), -1);
        Checks.due("16: no place of it", bench.find(0, Checks.INF), -1);
        Checks.due("16: that is no refusal", bench.status(), 0);
        bench.set(0, 3, Checks.d(-0.0));
        bench.set(0, 2, Checks.d(0.0));
        Checks.refused("16: 0 before -0", bench, bench.find(0, Checks.d(2)), -9, 4);
        bench.set(1, 7, Checks.s(5f));
        Checks.refused("16: NaN before 5", bench, bench.find(1, Checks.s(2f)), -9, 4);
        bench = Checks.with(5);
        Checks.due("16: of one", bench.find(0, Checks.d(5)), 0);
        bench = Checks.with(2, 1, 3);
        Checks.refused("16: the first two", bench, bench.find(0, Checks.d(3)), -9, 4);
        bench.sort(0, 1);
        Checks.refused("16: sorted downward", bench, bench.find(0, Checks.d(3)), -9, 4);
        bench.sort(0, 0);
        Checks.due("16: sorted", bench.find(0, Checks.d(3)), 2);
        bench = Checks.with(1, 2, 3, 2);
        Checks.refused("16: the last two", bench, bench.find(0, Checks.d(1)), -9, 4);
    }

    private static void found(ReckonBench bench, int row, long... bits) {
        int[] places = {0, 1, 3, 4, -1, 6};
        for (int i = 0; i < bits.length; i++) {
            Checks.due("16: find " + bits[i], bench.find(row, bits[i]), places[i]);
            Checks.due("16: status behind it", bench.status(), 0);
        }
    }

    private static void wrongInputs() {
        ReckonBench bench = Checks.with(3, 2, 1);
        int[] rows = {-1, 2, 64, Integer.MIN_VALUE, Integer.MAX_VALUE};
        for (int row : rows) {
            Checks.refused("7: row " + row, bench, bench.compare(row, 9, 0), -9, 1);
            Checks.refused("8: row " + row, bench, bench.between(row, 0, 9, 0), -9, 1);
            Checks.refused("9: row " + row, bench, bench.total(row, 0, 9), -9, 1);
            Checks.refused("10: row " + row, bench, bench.sort(row, 3), -9, 1);
            Checks.refused("13: row " + row, bench, bench.least(row), -9, 1);
            Checks.refused("14: row " + row, bench, bench.greatest(row), -9, 1);
            Checks.refused("16: row " + row, bench, bench.find(row, 0), -9, 1);
        }
        int[] places = {-1, 3, Integer.MIN_VALUE, Integer.MAX_VALUE};
        for (int i : places) {
            Checks.refused("7: i " + i, bench, bench.compare(0, i, 0), -9, 2);
            Checks.refused("7: j " + i, bench, bench.compare(0, 0, i), -9, 2);
            Checks.refused("8: i " + i, bench, bench.between(0, i, 0, 0), -9, 2);
            Checks.refused("8: lo " + i, bench, bench.between(0, 0, i, 0), -9, 2);
            Checks.refused("8: hi " + i, bench, bench.between(0, 0, 0, i), -9, 2);
            Checks.refused("9: i " + i, bench, bench.total(0, i, 0), -9, 2);
            Checks.refused("9: j " + i, bench, bench.total(0, 0, i), -9, 2);
            Checks.refused("10: way " + i, bench, bench.sort(0, i), -9, 2);
        }
        Checks.due("10: a refusal sorts nothing", bench.get(0, 0), Checks.d(3));
    }
}
