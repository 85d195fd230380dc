/**
 * The document once more, reckoned with Java's own doubles and floats.
 * It serves the tests alone, to tell the answer that is due to any call.
 */
final class Model {
    private final long[][] rows = new long[64][];
    private final boolean[] singles = new boolean[64];
    private int rowCount = 0;
    private int held = 0;
    int status = 0;

    int row(int n, boolean single) {
        if (n < 1 || n > 500) {
            return no(2);
        }
        if (rowCount == 64 || held + n > 4000) {
            return no(5);
        }
        rows[rowCount] = new long[n];
        singles[rowCount] = single;
        held += n;
        return ok(rowCount++);
    }

    int set(int row, int i, long bits) {
        if (refuses(row, i)) {
            return -9;
        }
        return put(row, i, clean(singles[row], bits));
    }

    int whole(int row, int i, long v) {
        if (refuses(row, i)) {
            return -9;
        }
        return put(row, i, singles[row] ? Checks.s((float) v) : Checks.d((double) v));
    }

    long get(int row, int i) {
        return refuses(row, i) ? 0 : rows[row][i];
    }

    long cut(int row, int i, boolean narrow) {
        if (refuses(row, i)) {
            return 0;
        }
        double x = value(row, i);
        return narrow ? (int) x : (long) x;
    }

    int compare(int row, int i, int j) {
        if (refuses(row, i, j)) {
            return -9;
        }
        double x = value(row, i);
        double y = value(row, j);
        return (x < y ? 1 : 0) + (x == y ? 2 : 0) + (x > y ? 4 : 0)
                + (x <= y ? 8 : 0) + (x >= y ? 16 : 0) + (x != y ? 32 : 0);
    }

    int between(int row, int i, int lo, int hi) {
        if (refuses(row, i, lo, hi)) {
            return -9;
        }
        double x = value(row, i);
        double low = value(row, lo);
        double high = value(row, hi);
        return (low <= x && x <= high ? 1 : 0) + (!(x < low) && !(x > high) ? 2 : 0);
    }

    int total(int row, int i, int j) {
        return refuses(row, i, j) ? -9 : Double.compare(value(row, i), value(row, j));
    }

    int sort(int row, int way) {
        if (refuses(row)) {
            return -9;
        }
        if (way < 0 || way > 2) {
            return no(2);
        }
        long[] old = rows[row].clone();
        for (int i = 1; i < old.length; i++) {
            for (int j = i; j > 0 && behind(row, way, j - 1, j); j--) {
                long kept = rows[row][j];
                rows[row][j] = rows[row][j - 1];
                rows[row][j - 1] = kept;
            }
        }
        int moved = 0;
        for (int i = 0; i < old.length; i++) {
            moved += old[i] != rows[row][i] ? 1 : 0;
        }
        return moved;
    }

    private boolean behind(int row, int way, int i, int j) {
        double x = value(row, i);
        double y = value(row, j);
        switch (way) {
            case 0: return Double.compare(x, y) > 0;
            case 1: return Double.compare(x, y) < 0;
            default: return Double.compare(Math.abs(x), Math.abs(y)) > 0;
        }
    }

    int act(int row, int what, int i, int j, int k) {
        if (refuses(row)) {
            return -9;
        }
        if (what < 0 || what > 13 || refuses(row, i, j, k)) {
            return no(2);
        }
        long x = rows[row][i];
        long y = rows[row][j];
        return put(row, k, singles[row]
                ? Checks.s(acted(what, Checks.toSingle(x), Checks.toSingle(y)))
                : Checks.d(acted(what, Checks.toDouble(x), Checks.toDouble(y))));
    }

    private static double acted(int what, double x, double y) {
        switch (what) {
            case 0: return Math.abs(x);
            case 1: return Math.max(x, y);
            case 2: return Math.min(x, y);
            case 3: return Math.floor(x);
            case 4: return Math.ceil(x);
            case 5: return Math.rint(x);
            case 6: return Math.signum(x);
            case 7: return Double.isNaN(y) ? y : Math.copySign(x, y);
            case 8: return x + y;
            case 9: return x - y;
            case 10: return x * y;
            case 11: return x / y;
            case 12: return x % y;
            default: return -x;
        }
    }

    private static float acted(int what, float x, float y) {
        switch (what) {
            case 8: return x + y;
            case 9: return x - y;
            case 10: return x * y;
            case 11: return x / y;
            case 12: return x % y;
            default: return (float) acted(what, (double) x, (double) y);
        }
    }

    int step(int row, int i, int n) {
        if (refuses(row, i)) {
            return -9;
        }
        if (n < -1000000000 || n > 1000000000) {
            return no(2);
        }
        boolean single = singles[row];
        long bits = rows[row][i];
        if (Double.isNaN(value(row, i)) || n == 0) {
            return ok(0);
        }
        long sign = single ? Checks.MINUS_S : Checks.MINUS;
        long top = single ? Checks.INF_S : Checks.INF;
        long from = (bits & sign) != 0 ? -(bits & ~sign) : bits;
        long to = from + n;
        if (to > top) {
            to = top;
        }
        if (to < -top) {
            to = -top;
        }
        put(row, i, to > 0 ? to : to < 0 ? -to | sign : n > 0 ? sign : 0);
        return (int) (to > from ? to - from : from - to);
    }

    int least(int row) {
        return best(row, -1);
    }

    int greatest(int row) {
        return best(row, 1);
    }

    private int best(int row, int side) {
        if (refuses(row)) {
            return -9;
        }
        int best = -1;
        for (int i = 0; i < rows[row].length; i++) {
            double x = value(row, i) * side;
            if (!Double.isNaN(x) && (best < 0 || x > value(row, best) * side)) {
                best = i;
            }
        }
        return best;
    }

    long sum(int row, int way) {
        if (refuses(row)) {
            return 0;
        }
        if (way < 0 || way > 2) {
            no(2);
            return 0;
        }
        long[] bits = rows[row];
        return singles[row] ? Checks.s(singleSum(bits, way)) : Checks.d(doubleSum(bits, way));
    }

    private static double doubleSum(long[] bits, int way) {
        if (way == 2) {
            return doubleHalves(bits, 0, bits.length);
        }
        double s = 0;
        double c = 0;
        for (long b : bits) {
            double x = Checks.toDouble(b);
            if (way == 0) {
                s = s + x;
                continue;
            }
            double y = x - c;
            double t = s + y;
            c = (t - s) - y;
            s = t;
        }
        return s;
    }

    private static double doubleHalves(long[] bits, int from, int count) {
        int half = count / 2;
        return count == 1 ? Checks.toDouble(bits[from])
                : doubleHalves(bits, from, half) + doubleHalves(bits, from + half, count - half);
    }

    private static float singleSum(long[] bits, int way) {
        if (way == 2) {
            return singleHalves(bits, 0, bits.length);
        }
        float s = 0;
        float c = 0;
        for (long b : bits) {
            float x = Checks.toSingle(b);
            if (way == 0) {
                s = s + x;
                continue;
            }
            float y = x - c;
            float t = s + y;
            c = (t - s) - y;
            s = t;
        }
        return s;
    }

    private static float singleHalves(long[] bits, int from, int count) {
        int half = count / 2;
        return count == 1 ? Checks.toSingle(bits[from])
                : singleHalves(bits, from, half) + singleHalves(bits, from + half, count - half);
    }

    int find(int row, long bits) {
        if (refuses(row)) {
            return -9;
        }
        for (int i = 1; i < rows[row].length; i++) {
            if (Double.compare(value(row, i - 1), value(row, i)) > 0) {
                return no(4);
            }
        }
        long sought = clean(singles[row], bits);
        for (int i = 0; i < rows[row].length; i++) {
            if (rows[row][i] == sought) {
                return i;
            }
        }
        return -1;
    }

    int interval(int row, int a, int b, int what) {
        if (refuses(row)) {
            return -9;
        }
        int pairs = rows[row].length / 2;
        if (a < 0 || a >= pairs || b < 0 || b >= pairs || what < 0 || what > 5) {
            return no(2);
        }
        double lowA = value(row, 2 * a);
        double highA = value(row, 2 * a + 1);
        double lowB = value(row, 2 * b);
        double highB = value(row, 2 * b + 1);
        if (!(lowA <= highA) || !(lowB <= highB) || what == 3 && lowB <= 0 && 0 <= highB) {
            return bounds(row, a, Double.NEGATIVE_INFINITY, Double.POSITIVE_INFINITY, 1);
        }
        if (what == 4) {
            return bounds(row, a, Math.min(lowA, lowB), Math.max(highA, highB), 0);
        }
        if (what == 5) {
            double low = Math.max(lowA, lowB);
            double high = Math.min(highA, highB);
            return low > high ? bounds(row, a, Double.NaN, Double.NaN, 2) : bounds(row, a, low, high, 0);
        }
        if (singles[row]) {
            float[] r = singleBounds(what, new float[] {(float) lowA, (float) highA, (float) lowB, (float) highB});
            float low = Float.isNaN(r[0]) ? Float.NEGATIVE_INFINITY : Math.nextDown(r[0]);
            float high = Float.isNaN(r[1]) ? Float.POSITIVE_INFINITY : Math.nextUp(r[1]);
            // nextDown and nextUp of the numbers next to 0 give 0 and -0 as the document does.
            return bounds(row, a, low, high, 0);
        }
        double[] r = doubleBounds(what, new double[] {lowA, highA, lowB, highB});
        double low = Double.isNaN(r[0]) ? Double.NEGATIVE_INFINITY : Math.nextDown(r[0]);
        double high = Double.isNaN(r[1]) ? Double.POSITIVE_INFINITY : Math.nextUp(r[1]);
        return bounds(row, a, low, high, 0);
    }

    private static double[] doubleBounds(int what, double[] v) {
        if (what == 0) {
            return new double[] {v[0] + v[2], v[1] + v[3]};
        }
        if (what == 1) {
            return new double[] {v[0] - v[3], v[1] - v[2]};
        }
        double low = Double.POSITIVE_INFINITY;
        double high = Double.NEGATIVE_INFINITY;
        for (int i = 0; i < 4; i++) {
            double x = v[i / 2];
            double y = v[2 + i % 2];
            double r = what == 2 ? x * y : x / y;
            r = Double.isNaN(r) ? 0 : r;
            low = Math.min(low, r);
            high = Math.max(high, r);
        }
        return new double[] {low, high};
    }

    private static float[] singleBounds(int what, float[] v) {
        if (what == 0) {
            return new float[] {v[0] + v[2], v[1] + v[3]};
        }
        if (what == 1) {
            return new float[] {v[0] - v[3], v[1] - v[2]};
        }
        float low = Float.POSITIVE_INFINITY;
        float high = Float.NEGATIVE_INFINITY;
        for (int i = 0; i < 4; i++) {
            float x = v[i / 2];
            float y = v[2 + i % 2];
            float r = what == 2 ? x * y : x / y;
            r = Float.isNaN(r) ? 0 : r;
            low = Math.min(low, r);
            high = Math.max(high, r);
        }
        return new float[] {low, high};
    }

    private int bounds(int row, int pair, double low, double high, int answer) {
        put(row, 2 * pair, singles[row] ? Checks.s((float) low) : Checks.d(low));
        put(row, 2 * pair + 1, singles[row] ? Checks.s((float) high) : Checks.d(high));
        return answer;
    }

    int move(int row, int i, int other, int j, boolean turns) {
        if (refuses(row)) {
            return -9;
        }
        if (refuses(row, i) || refuses(other, j)) {
            return no(2);
        }
        if (singles[row] != singles[other] && !turns) {
            return no(3);
        }
        double x = value(row, i);
        return put(other, j, singles[other] ? Checks.s((float) x) : Checks.d(x));
    }

    private double value(int row, int i) {
        return singles[row] ? Checks.toSingle(rows[row][i]) : Checks.toDouble(rows[row][i]);
    }

    private static long clean(boolean single, long bits) {
        return single ? Checks.s(Checks.toSingle(bits)) : Checks.d(Checks.toDouble(bits));
    }

    private int put(int row, int i, long bits) {
        rows[row][i] = bits;
        double x = value(row, i);
        if (Double.isNaN(x)) {
            return 3;
        }
        int sort = x == 0 ? 0 : Double.isInfinite(x) ? 2 : 1;
        return Math.copySign(1.0, x) < 0 ? sort + 4 : sort;
    }

    /** 1 for the row before 2 for the places. */
    private boolean refuses(int row, int... places) {
        status = 0;
        if (row < 0 || row >= rowCount) {
            status = 1;
            return true;
        }
        for (int place : places) {
            if (place < 0 || place >= rows[row].length) {
                status = 2;
            }
        }
        return status != 0;
    }

    private int no(int why) {
        status = why;
        return -9;
    }

    private int ok(int answer) {
        status = 0;
        return answer;
    }
}
