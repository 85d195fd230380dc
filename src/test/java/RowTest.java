/** Promises 1 (a new object) and 2 (row). */
public final class RowTest {
    public static void main(String[] args) {
        newObject();
        numbersAndZeros();
        lengths();
        mostRows();
        mostNumbers();
        Checks.end();
    }

    private static void newObject() {
        ReckonBench bench = new ReckonBench();
        Checks.due("1: status of a new one", bench.status(), 0);
        Checks.refused("1: get of a new one", bench, bench.get(0, 0), 0, 1);
        Checks.refused("1: least of a new one", bench, bench.least(0), -9, 1);
        Checks.due("1: its first row", bench.row(1, false), 0);
        ReckonBench other = new ReckonBench();
        Checks.refused("1: two share nothing", other, other.get(0, 0), 0, 1);
    }

    private static void numbersAndZeros() {
        ReckonBench bench = new ReckonBench();
        for (int row = 0; row < 4; row++) {
            int n = 3 + row;
            Checks.due("2: number", bench.row(n, row % 2 == 1), row);
            for (int i = 0; i < n; i++) {
                Checks.due("2: all 0 at first", bench.get(row, i), 0);
                Checks.due("2: that was answered", bench.status(), 0);
            }
            Checks.refused("2: place n", bench, bench.get(row, n), 0, 2);
        }
        bench.set(0, 0, Checks.MINUS_S);
        bench.set(1, 0, Checks.MINUS_S);
        Checks.due("2: DOUBLE", bench.get(0, 0), Checks.MINUS_S);
        Checks.due("2: SINGLE", bench.set(1, 0, Checks.MINUS_S), 4);
        Checks.due("2: rows are apart", bench.get(2, 0), 0);
    }

    private static void lengths() {
        ReckonBench bench = new ReckonBench();
        int[] wrong = {0, -1, 501, Integer.MIN_VALUE, Integer.MAX_VALUE};
        for (int n : wrong) {
            Checks.refused("2: row of " + n, bench, bench.row(n, true), -9, 2);
        }
        Checks.due("2: 500", bench.row(500, true), 0);
        Checks.due("2: 1", bench.row(1, false), 1);
        Checks.due("2: last place", bench.set(0, 499, 1), 1);
        Checks.due("2: only place", bench.set(1, 0, 1), 1);
        Checks.refused("2: place 500", bench, bench.set(0, 500, 1), -9, 2);
    }

    private static void mostRows() {
        ReckonBench bench = new ReckonBench();
        for (int row = 0; row < 64; row++) {
            Checks.due("2: row", bench.row(1 + row % 2, row % 3 == 0), row);
            Checks.due("2: answered", bench.status(), 0);
        }
        Checks.refused("2: the 65th", bench, bench.row(1, false), -9, 5);
        Checks.refused("2: 2 before 5", bench, bench.row(0, false), -9, 2);
        Checks.due("2: the last is there", bench.get(63, 0), 0);
        Checks.due("2: answered", bench.status(), 0);
        Checks.refused("2: no more", bench, bench.get(64, 0), 0, 1);
    }

    private static void mostNumbers() {
        ReckonBench bench = new ReckonBench();
        for (int row = 0; row < 7; row++) {
            Checks.due("2: row of 500", bench.row(500, row % 2 == 0), row);
        }
        Checks.due("2: 499 more", bench.row(499, true), 7);
        Checks.refused("2: 4001 together", bench, bench.row(2, false), -9, 5);
        Checks.refused("2: far more together", bench, bench.row(500, false), -9, 5);
        Checks.refused("2: 2 before 5", bench, bench.row(501, false), -9, 2);
        Checks.refused("2: no row was made", bench, bench.get(8, 0), 0, 1);
        Checks.due("2: 4000 together", bench.row(1, false), 8);
        Checks.refused("2: nothing more", bench, bench.row(1, false), -9, 5);
        Checks.due("2: the last place", bench.set(8, 0, Checks.INF), 2);
    }
}
