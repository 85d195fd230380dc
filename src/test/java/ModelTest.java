import java.util.Random;

/** Runs of at most 512 calls by chance (of a fixed seed), each answer and status held against the model. */
public final class ModelTest {
    private static final int RUNS = 12000;
    /** A round makes at most six calls, those of status() counted too. */
    private static final int LAST_ROUND_AT = 512 - 6;

    private final Random random;
    private final ReckonBench bench = new ReckonBench();
    private final Model model = new Model();
    private final int run;
    private int calls = 0;
    private int rowsAsked = 0;
    private final int longest;

    private ModelTest(int run) {
        this.run = run;
        this.random = new Random(run);
        int[] lengths = {2, 6, 6, 12, 40, 500};
        this.longest = lengths[run % lengths.length];
    }

    public static void main(String[] args) {
        for (int run = 0; run < RUNS; run++) {
            ModelTest test = new ModelTest(run);
            while (test.calls <= LAST_ROUND_AT) {
                test.round();
            }
        }
        Checks.end();
    }

    private void round() {
        int which = rowsAsked < 3 ? 0 : 1 + random.nextInt(40);
        if (which == 0 || which == 1 && random.nextInt(4) == 0) {
            rowsAsked++;
            int n = random.nextInt(8) == 0 ? someInt(500) : 1 + random.nextInt(longest);
            boolean single = random.nextBoolean();
            check("row", bench.row(n, single), model.row(n, single));
        } else if (which < 14) {
            fill();
        } else if (which < 24) {
            look();
        } else {
            change();
        }
    }

    private void fill() {
        int row = someRow();
        int i = somePlace();
        if (random.nextInt(4) == 0) {
            long v = random.nextLong() >> random.nextInt(64);
            check("whole", bench.whole(row, i, v), model.whole(row, i, v));
        } else {
            long bits = Checks.someBits(random, random.nextBoolean(), true);
            check("set", bench.set(row, i, bits), model.set(row, i, bits));
        }
    }

    private void look() {
        int row = someRow();
        int i = somePlace();
        int j = somePlace();
        int k = somePlace();
        boolean flag = random.nextBoolean();
        switch (random.nextInt(9)) {
            case 0: check("get", bench.get(row, i), model.get(row, i)); break;
            case 1: check("cut", bench.cut(row, i, flag), model.cut(row, i, flag)); break;
            case 2: check("compare", bench.compare(row, i, j), model.compare(row, i, j)); break;
            case 3: check("between", bench.between(row, i, j, k), model.between(row, i, j, k)); break;
            case 4: check("total", bench.total(row, i, j), model.total(row, i, j)); break;
            case 5: check("least", bench.least(row), model.least(row)); break;
            case 6: check("greatest", bench.greatest(row), model.greatest(row)); break;
            case 7:
                int way = someInt(3);
                check("sum", bench.sum(row, way), model.sum(row, way));
                break;
            default:
                long bits = model.get(row, i);
                check("find", bench.find(row, bits), model.find(row, bits));
        }
    }

    private void change() {
        int row = someRow();
        int i = somePlace();
        int j = somePlace();
        int k = somePlace();
        switch (random.nextInt(7)) {
            case 0:
                int way = someInt(3);
                check("sort", bench.sort(row, way), model.sort(row, way));
                break;
            case 1: case 2:
                int what = someInt(14);
                check("act " + what, bench.act(row, what, i, j, k), model.act(row, what, i, j, k));
                checkPlace(row, k);
                break;
            case 3:
                int n = random.nextInt(8) == 0 ? random.nextInt() : random.nextInt(9) - 4;
                check("step " + n, bench.step(row, i, n), model.step(row, i, n));
                checkPlace(row, i);
                break;
            case 4: case 5:
                int pairs = Math.max(1, longest / 2);
                int a = someInt(pairs);
                int b = someInt(pairs);
                int how = someInt(6);
                check("interval " + how, bench.interval(row, a, b, how), model.interval(row, a, b, how));
                checkPlace(row, 2 * a);
                checkPlace(row, 2 * a + 1);
                break;
            default:
                int other = someRow();
                boolean turns = random.nextInt(3) != 0;
                check("move", bench.move(row, i, other, j, turns), model.move(row, i, other, j, turns));
                checkPlace(other, j);
        }
    }

    private void check(String what, long got, long want) {
        calls += 2;
        String told = "run " + run + ", call " + calls + ", " + what;
        Checks.due(told, got, want);
        Checks.due(told + ", then status()", bench.status(), model.status);
    }

    private void checkPlace(int row, int i) {
        check("get behind it", bench.get(row, i), model.get(row, i));
    }

    private int someRow() {
        return random.nextInt(30) == 0 ? someInt(64) : random.nextInt(rowsAsked);
    }

    private int somePlace() {
        return random.nextInt(30) == 0 ? someInt(500) : random.nextInt(longest);
    }

    /** 0 to bound - 1, now and then another: next to these, or far away. */
    private int someInt(int bound) {
        switch (random.nextInt(40)) {
            case 0: return -1;
            case 1: return bound;
            case 2: return bound + 1;
            case 3: return random.nextInt();
            case 4: return Integer.MIN_VALUE;
            case 5: return Integer.MAX_VALUE;
            default: return random.nextInt(bound);
        }
    }
}
