/** The edges that promises 7 to 10, 13, 14 and 16 name, sentence by sentence. */
public final class OrderEdgesTest {
    private static final double INF = Double.POSITIVE_INFINITY;
    private static final double NAN = Double.NaN;

    public static void main(String[] args) {
        compare();
        compareNan();
        compareZeros();
        betweenBounds();
        betweenNeither();
        betweenZeros();
        total();
        totalNan();
        totalZeros();
        ways();
        upward();
        downward();
        withoutSigns();
        infiniteAndNanBehind();
        alikeAsTheyStood();
        otherBits();
        least();
        leastOfNan();
        greatest();
        greatestOfNan();
        firstWith();
        zerosAndNanSought();
        noneFound();
        notSorted();
        alikeNextToEachOther();
        Checks.end();
    }

    private static void compare() {
        Checks.says("Promise 7: The sum of 1 if the number at i is less than that at j, 2 equal, 4 greater, 8 less"
                + " or equal, 16 greater or equal, 32 unlike, by COMPARES.");
        for (int kind : Edges.KINDS) {
            long one = Edges.of(kind, 1);
            ReckonBench bench = Edges.bench(kind, one - 1, one, one + 1, Edges.minus(kind, one), one);
            Checks.due("just less", bench.compare(0, 0, 1), 1 + 8 + 32);
            Checks.due("equal", bench.compare(0, 1, 4), 2 + 8 + 16);
            Checks.due("itself", bench.compare(0, 1, 1), 2 + 8 + 16);
            Checks.due("just greater", bench.compare(0, 2, 1), 4 + 16 + 32);
            Checks.due("- and +", bench.compare(0, 3, 1), 1 + 8 + 32);
            Checks.due("+ and -", bench.compare(0, 1, 3), 4 + 16 + 32);
            Checks.due("answered", bench.status(), 0);
            Checks.refused("place -1", bench, bench.compare(0, -1, 0), -9, 2);
            Checks.refused("place 5", bench, bench.compare(0, 0, 5), -9, 2);
        }
    }

    private static void compareNan() {
        Checks.says("Promise 7: ... by COMPARES [NaN]");
        for (int kind : Edges.KINDS) {
            ReckonBench bench = Edges.benchOf(kind, NAN, NAN, INF, -INF);
            Checks.due("NaN and itself", bench.compare(0, 0, 0), 32);
            Checks.due("NaN and NaN", bench.compare(0, 0, 1), 32);
            Checks.due("NaN and INFINITE", bench.compare(0, 0, 2), 32);
            Checks.due("INFINITE and NaN", bench.compare(0, 2, 0), 32);
            Checks.due("NaN and -INFINITE", bench.compare(0, 0, 3), 32);
            Checks.due("no NaN", bench.compare(0, 2, 2), 26);
        }
    }

    private static void compareZeros() {
        Checks.says("Promise 7: ... by COMPARES [the two zeros]");
        for (int kind : Edges.KINDS) {
            long minus = Edges.minusZero(kind);
            ReckonBench bench = Edges.bench(kind, 0, minus, 1, minus | 1);
            Checks.due("0 and -0", bench.compare(0, 0, 1), 26);
            Checks.due("-0 and 0", bench.compare(0, 1, 0), 26);
            Checks.due("-0 and the least", bench.compare(0, 1, 2), 41);
            Checks.due("0 and what is next below", bench.compare(0, 0, 3), 52);
        }
    }

    private static void betweenBounds() {
        Checks.says("Promise 8: 1 if low <= x and x <= high, of the numbers x at i, low at lo, high at hi");
        for (int kind : Edges.KINDS) {
            long one = Edges.of(kind, 1);
            long two = Edges.of(kind, 2);
            ReckonBench bench = Edges.bench(kind, one - 1, one, two, two + 1);
            Checks.due("just below low", bench.between(0, 0, 1, 2), 0);
            Checks.due("low itself", bench.between(0, 1, 1, 2), 3);
            Checks.due("high itself", bench.between(0, 2, 1, 2), 3);
            Checks.due("just above high", bench.between(0, 3, 1, 2), 0);
            Checks.due("low and high alike", bench.between(0, 1, 1, 1), 3);
            Checks.due("low above high", bench.between(0, 1, 2, 0), 0);
            Checks.due("low above high, x high", bench.between(0, 1, 2, 1), 0);
            Checks.due("low above high, x low", bench.between(0, 2, 2, 1), 0);
            long minus = Edges.minusZero(kind);
            ReckonBench negative = Edges.bench(kind, minus | one + 1, minus | one, minus | one - 1);
            Checks.due("just below low, -", negative.between(0, 0, 1, 2), 0);
            Checks.due("low and high themselves, -", negative.between(0, 1, 1, 1), 3);
            Checks.due("just above high, -", negative.between(0, 2, 0, 1), 0);
            Checks.refused("i 4", bench, bench.between(0, 4, 0, 0), -9, 2);
            Checks.refused("lo -1", bench, bench.between(0, 0, -1, 0), -9, 2);
            Checks.refused("hi 4", bench, bench.between(0, 0, 0, 4), -9, 2);
        }
    }

    private static void betweenNeither() {
        Checks.says("Promise 8: 2 more if neither x < low nor x > high. [NaN]");
        for (int kind : Edges.KINDS) {
            ReckonBench bench = Edges.benchOf(kind, 1, 2, 3, NAN);
            Checks.due("x NaN", bench.between(0, 3, 0, 2), 2);
            Checks.due("low NaN", bench.between(0, 1, 3, 2), 2);
            Checks.due("high NaN", bench.between(0, 1, 0, 3), 2);
            Checks.due("low NaN, x high", bench.between(0, 2, 3, 2), 2);
            Checks.due("low NaN, x above high", bench.between(0, 2, 3, 1), 0);
            Checks.due("high NaN, x below low", bench.between(0, 0, 1, 3), 0);
            Checks.due("both NaN", bench.between(0, 0, 3, 3), 2);
            Checks.due("all NaN", bench.between(0, 3, 3, 3), 2);
        }
    }

    private static void betweenZeros() {
        Checks.says("Promise 8: ... low <= x and x <= high [the two zeros]");
        for (int kind : Edges.KINDS) {
            long minus = Edges.minusZero(kind);
            ReckonBench bench = Edges.bench(kind, 0, minus, 1, minus | 1);
            Checks.due("-0 from 0", bench.between(0, 1, 0, 2), 3);
            Checks.due("0 up to -0", bench.between(0, 0, 3, 1), 3);
            Checks.due("0 from 0 to -0", bench.between(0, 0, 0, 1), 3);
            Checks.due("-0 from 0 to -0", bench.between(0, 1, 0, 1), 3);
            Checks.due("what is next above -0", bench.between(0, 2, 0, 1), 0);
            Checks.due("what is next below 0", bench.between(0, 3, 0, 1), 0);
        }
    }

    private static void total() {
        Checks.says("Promise 9: -1, 0, 1: the number at i is below, the same as, above that at j in TOTAL ORDER.");
        for (int kind : Edges.KINDS) {
            long one = Edges.of(kind, 1);
            ReckonBench bench = Edges.bench(kind, one, one + 1, one, Edges.minus(kind, one),
                    Edges.minus(kind, one + 1));
            Checks.due("below", bench.total(0, 0, 1), -1);
            Checks.due("-1 is no refusal", bench.status(), 0);
            Checks.due("the same", bench.total(0, 0, 2), 0);
            Checks.due("itself", bench.total(0, 4, 4), 0);
            Checks.due("above", bench.total(0, 1, 0), 1);
            Checks.due("of two with - the greater", bench.total(0, 3, 4), 1);
            Checks.due("- and +", bench.total(0, 3, 0), -1);
            Checks.refused("place -1", bench, bench.total(0, 0, -1), -9, 2);
            Checks.refused("place 5", bench, bench.total(0, 5, 0), -9, 2);
        }
    }

    private static void totalNan() {
        Checks.says("Promise 9: ... in TOTAL ORDER [NaN]");
        for (int kind : Edges.KINDS) {
            ReckonBench bench = Edges.bench(kind, -1, Edges.infinite(kind) + 1, Edges.infinite(kind),
                    Edges.minus(kind, Edges.infinite(kind)));
            Checks.due("NaN and NaN", bench.total(0, 0, 1), 0);
            Checks.due("NaN and INFINITE", bench.total(0, 0, 2), 1);
            Checks.due("INFINITE and NaN", bench.total(0, 2, 0), -1);
            Checks.due("NaN and -INFINITE", bench.total(0, 0, 3), 1);
        }
    }

    private static void totalZeros() {
        Checks.says("Promise 9: ... in TOTAL ORDER [the two zeros]");
        for (int kind : Edges.KINDS) {
            long minus = Edges.minusZero(kind);
            ReckonBench bench = Edges.bench(kind, 0, minus, 1, minus | 1, minus);
            Checks.due("-0 and 0", bench.total(0, 1, 0), -1);
            Checks.due("0 and -0", bench.total(0, 0, 1), 1);
            Checks.due("-0 and -0", bench.total(0, 1, 4), 0);
            Checks.due("what is next below 0 and -0", bench.total(0, 3, 1), -1);
            Checks.due("the least and 0", bench.total(0, 2, 0), 1);
        }
    }

    private static void ways() {
        Checks.says("Promise 10: The ROW is put into order [way 0 to 2]");
        for (int kind : Edges.KINDS) {
            ReckonBench bench = Edges.benchOf(kind, 3, 1, 2);
            int[] wrong = {Integer.MIN_VALUE, -1, 3, Integer.MAX_VALUE};
            for (int way : wrong) {
                Checks.refused("way " + way, bench, bench.sort(0, way), -9, 2);
            }
            Edges.rowIs("unsorted still", bench, 0, Edges.bitsOf(kind, 3, 1, 2));
            Checks.due("way 0", bench.sort(0, 0), 3);
            Checks.due("way 1", bench.sort(0, 1), 2);
            Checks.due("way 2", bench.sort(0, 2), 2);
            Checks.due("answered", bench.status(), 0);
            Checks.due("one alone", Edges.benchOf(kind, -3).sort(0, 2), 0);
        }
        ReckonBench bench = new ReckonBench();
        bench.row(500, false);
        for (int i = 0; i < 500; i++) {
            bench.whole(0, i, 500 - i);
        }
        Checks.due("500 of them", bench.sort(0, 0), 500);
        Checks.due("the first", bench.get(0, 0), Checks.d(1));
        Checks.due("the last", bench.get(0, 499), Checks.d(500));
    }

    private static void sortedIs(int kind, int way, double[] before, double... after) {
        ReckonBench bench = Edges.benchOf(kind, before);
        bench.sort(0, way);
        Edges.rowIs("way " + way, bench, 0, Edges.bitsOf(kind, after));
    }

    private static double[] row(double... values) {
        return values;
    }

    private static void upward() {
        Checks.says("Promise 10: way 0: TOTAL ORDER upward");
        for (int kind : Edges.KINDS) {
            sortedIs(kind, 0, row(0.0, -0.0), -0.0, 0.0);
            sortedIs(kind, 0, row(NAN, INF), INF, NAN);
            sortedIs(kind, 0, row(2, NAN, -INF, 0.0, -1, INF, -0.0, 1, -2), -INF, -2, -1, -0.0, 0.0, 1, 2, INF, NAN);
        }
    }

    private static void downward() {
        Checks.says("Promise 10: 1: downward");
        for (int kind : Edges.KINDS) {
            sortedIs(kind, 1, row(-0.0, 0.0), 0.0, -0.0);
            sortedIs(kind, 1, row(INF, NAN), NAN, INF);
            sortedIs(kind, 1, row(2, NAN, -INF, 0.0, -1, INF, -0.0, 1, -2), NAN, INF, 2, 1, 0.0, -0.0, -1, -2, -INF);
        }
    }

    private static void withoutSigns() {
        Checks.says("Promise 10: 2: by VALUES without signs");
        for (int kind : Edges.KINDS) {
            sortedIs(kind, 2, row(-2, 1), 1, -2);
            sortedIs(kind, 2, row(2, -1), -1, 2);
            sortedIs(kind, 2, row(-3, 2, 0.0, -1), 0.0, -1, 2, -3);
            long one = Edges.of(kind, 1);
            ReckonBench bench = Edges.bench(kind, Edges.minus(kind, one + 1), one, Edges.minus(kind, one - 1));
            bench.sort(0, 2);
            Edges.rowIs("next to one another", bench, 0, Edges.minus(kind, one - 1), one, Edges.minus(kind, one + 1));
        }
    }

    private static void infiniteAndNanBehind() {
        Checks.says("Promise 10: (INFINITE ones behind the finite, NaN behind all)");
        for (int kind : Edges.KINDS) {
            long most = Edges.most(kind);
            long infinite = Edges.infinite(kind);
            long minus = Edges.minusZero(kind);
            ReckonBench bench = Edges.bench(kind, -1, minus | infinite, minus | most, infinite, most);
            bench.sort(0, 2);
            Edges.rowIs("behind", bench, 0, minus | most, most, minus | infinite, infinite, Edges.nan(kind));
        }
    }

    private static void alikeAsTheyStood() {
        Checks.says("Promise 10: those alike so as they stood");
        for (int kind : Edges.KINDS) {
            sortedIs(kind, 2, row(-1, 1, -1), -1, 1, -1);
            sortedIs(kind, 2, row(1, -1, 1), 1, -1, 1);
            sortedIs(kind, 2, row(0.0, -0.0), 0.0, -0.0);
            sortedIs(kind, 2, row(-0.0, 0.0), -0.0, 0.0);
            sortedIs(kind, 2, row(INF, -INF), INF, -INF);
            sortedIs(kind, 2, row(-INF, INF), -INF, INF);
            sortedIs(kind, 2, row(2, -1, -2, 1, -0.0, 2, -1), -0.0, -1, 1, -1, 2, -2, 2);
            sortedIs(kind, 2, row(5, -5, 4, -4, 5, 3, -3, -5), 3, -3, 4, -4, 5, -5, 5, -5);
        }
    }

    private static void otherBits() {
        Checks.says("Promise 10: in how many PLACES other BITS stand than before.");
        for (int kind : Edges.KINDS) {
            Checks.due("none", Edges.benchOf(kind, 1, 2, 3).sort(0, 0), 0);
            Checks.due("two", Edges.benchOf(kind, 1, 3, 2, 4).sort(0, 0), 2);
            Checks.due("all", Edges.benchOf(kind, 2, 3, 1).sort(0, 0), 3);
            Checks.due("the middle one stays", Edges.benchOf(kind, 3, 2, 1).sort(0, 0), 2);
            Checks.due("alike ones that change about", Edges.benchOf(kind, 2, 2, 1).sort(0, 0), 2);
            Checks.due("the two zeros differ", Edges.benchOf(kind, 0.0, -0.0).sort(0, 0), 2);
            Checks.due("NaN and NaN don't", Edges.bench(kind, -1, Edges.nan(kind), -1).sort(0, 1), 0);
            Checks.due("by the ROW as it was, not the call before", sortedTwice(kind), 2);
        }
    }

    private static int sortedTwice(int kind) {
        ReckonBench bench = Edges.benchOf(kind, 2, 1, 3);
        bench.sort(0, 0);
        return bench.sort(0, 1);
    }

    private static void least() {
        Checks.says("Promise 13: The first PLACE whose number is the least by COMPARES");
        for (int kind : Edges.KINDS) {
            Checks.due("one alone", Edges.benchOf(kind, 5).least(0), 0);
            Checks.due("the last", Edges.benchOf(kind, 3, 2, 1).least(0), 2);
            Checks.due("the first of several", Edges.benchOf(kind, 2, 1, 3, 1).least(0), 1);
            Checks.due("0 before -0", Edges.benchOf(kind, 1, 0.0, -0.0).least(0), 1);
            Checks.due("-0 before 0", Edges.benchOf(kind, 1, -0.0, 0.0).least(0), 1);
            Checks.due("-INFINITE", Edges.bench(kind, Edges.minus(kind, Edges.most(kind)),
                    Edges.minus(kind, Edges.infinite(kind)), Edges.minus(kind, Edges.infinite(kind))).least(0), 1);
            Checks.due("INFINITE alone", Edges.benchOf(kind, INF, INF).least(0), 0);
        }
    }

    private static void leastOfNan() {
        Checks.says("Promise 13: NaN left aside; -1: all are NaN.");
        for (int kind : Edges.KINDS) {
            ReckonBench bench = Edges.benchOf(kind, NAN, NAN, NAN);
            Checks.due("all", bench.least(0), -1);
            Checks.due("-1 is no refusal", bench.status(), 0);
            Checks.due("one alone", Edges.benchOf(kind, NAN).least(0), -1);
            Checks.due("all but the last", Edges.benchOf(kind, NAN, NAN, INF).least(0), 2);
            Checks.due("NaN first", Edges.benchOf(kind, NAN, 2, 1).least(0), 2);
            Checks.due("NaN behind", Edges.benchOf(kind, 1, NAN, 2).least(0), 0);
        }
    }

    private static void greatest() {
        Checks.says("Promise 14: The first PLACE whose number is the greatest likewise.");
        for (int kind : Edges.KINDS) {
            Checks.due("one alone", Edges.benchOf(kind, 5).greatest(0), 0);
            Checks.due("the last", Edges.benchOf(kind, 1, 2, 3).greatest(0), 2);
            Checks.due("the first of several", Edges.benchOf(kind, 2, 3, 1, 3).greatest(0), 1);
            Checks.due("-0 before 0", Edges.benchOf(kind, -1, -0.0, 0.0).greatest(0), 1);
            Checks.due("0 before -0", Edges.benchOf(kind, -1, 0.0, -0.0).greatest(0), 1);
            Checks.due("INFINITE", Edges.bench(kind, Edges.most(kind), Edges.infinite(kind),
                    Edges.infinite(kind)).greatest(0), 1);
            Checks.due("-INFINITE alone", Edges.benchOf(kind, -INF, -INF).greatest(0), 0);
        }
    }

    private static void greatestOfNan() {
        Checks.says("Promise 14: likewise [NaN left aside; -1: all are NaN]");
        for (int kind : Edges.KINDS) {
            ReckonBench bench = Edges.benchOf(kind, NAN, NAN, NAN);
            Checks.due("all", bench.greatest(0), -1);
            Checks.due("-1 is no refusal", bench.status(), 0);
            Checks.due("one alone", Edges.benchOf(kind, NAN).greatest(0), -1);
            Checks.due("all but the last", Edges.benchOf(kind, NAN, NAN, -INF).greatest(0), 2);
            Checks.due("NaN first", Edges.benchOf(kind, NAN, 1, 2).greatest(0), 2);
            Checks.due("NaN behind", Edges.benchOf(kind, 2, NAN, 1).greatest(0), 0);
        }
    }

    private static void firstWith() {
        Checks.says("Promise 16: The first PLACE with the number of these BITS");
        for (int kind : Edges.KINDS) {
            ReckonBench bench = Edges.benchOf(kind, 1, 1, 2, 2, 2, 3);
            Checks.due("the first place", bench.find(0, Edges.of(kind, 1)), 0);
            Checks.due("the first of several", bench.find(0, Edges.of(kind, 2)), 2);
            Checks.due("the last place", bench.find(0, Edges.of(kind, 3)), 5);
            Checks.due("answered", bench.status(), 0);
            Checks.due("all alike", Edges.benchOf(kind, 7, 7, 7, 7).find(0, Edges.of(kind, 7)), 0);
            Checks.due("one alone", Edges.benchOf(kind, 7).find(0, Edges.of(kind, 7)), 0);
        }
        ReckonBench bench = new ReckonBench();
        bench.row(500, true);
        bench.set(0, 499, 1);
        Checks.due("the last of 500", bench.find(0, 1), 499);
        Checks.due("the lowest 32 count", bench.find(0, 4294967297L), 499);
    }

    private static void zerosAndNanSought() {
        Checks.says("Promise 16: (0 and -0 are two, NaN is one)");
        for (int kind : Edges.KINDS) {
            ReckonBench bench = Edges.benchOf(kind, -0.0, -0.0, 0.0, 0.0, NAN, NAN);
            Checks.due("-0", bench.find(0, Edges.minusZero(kind)), 0);
            Checks.due("0", bench.find(0, 0), 2);
            Checks.due("NaN", bench.find(0, Edges.nan(kind)), 4);
            Checks.due("NaN by other BITS", bench.find(0, Edges.infinite(kind) + 1), 4);
            Checks.due("NaN by other BITS", bench.find(0, -1), 4);
            Checks.due("-0 alone", Edges.benchOf(kind, -0.0).find(0, 0), -1);
            Checks.due("0 alone", Edges.benchOf(kind, 0.0).find(0, Edges.minusZero(kind)), -1);
            Checks.due("INFINITE is not NaN", bench.find(0, Edges.infinite(kind)), -1);
        }
    }

    private static void noneFound() {
        Checks.says("Promise 16: -1: there is none.");
        for (int kind : Edges.KINDS) {
            long one = Edges.of(kind, 1);
            ReckonBench bench = Edges.bench(kind, one, one + 2);
            Checks.due("below all", bench.find(0, one - 1), -1);
            Checks.due("-1 is no refusal", bench.status(), 0);
            Checks.due("between two", bench.find(0, one + 1), -1);
            Checks.due("above all", bench.find(0, one + 3), -1);
            Checks.due("the other sign", bench.find(0, Edges.minus(kind, one)), -1);
            Checks.due("NaN", bench.find(0, Edges.nan(kind)), -1);
            Checks.due("the one that is there", bench.find(0, one + 2), 1);
        }
    }

    private static void notSorted() {
        Checks.says("Promise 16: 4: the PLACES don't stand in TOTAL ORDER upward");
        for (int kind : Edges.KINDS) {
            long one = Edges.of(kind, 1);
            double[][] unsorted = {
                {2, 1, 3, 4}, {1, 3, 2, 4}, {1, 2, 4, 3}, {4, 3, 2, 1}, {1, 0.0, -0.0, 1}, {0.0, -0.0},
                {1, NAN, 2, 3}, {NAN, INF}, {NAN, 1}, {-1, -2}, {1, 1, 1, -1}, {-INF, INF, -INF},
            };
            for (double[] values : unsorted) {
                ReckonBench bench = Edges.benchOf(kind, values);
                Checks.refused("unsorted", bench, bench.find(0, one), -9, 4);
                Edges.rowIs("it stays", bench, 0, Edges.bitsOf(kind, values));
                bench.sort(0, 2);
                bench.sort(0, 1);
                bench.sort(0, 0);
                bench.find(0, one);
                Checks.due("sorted", bench.status(), 0);
            }
            ReckonBench bench = Edges.benchOf(kind, 1, 2, 3);
            bench.sort(0, 1);
            Checks.refused("sorted downward", bench, bench.find(0, one), -9, 4);
            bench = Edges.benchOf(kind, 1, -2);
            bench.sort(0, 2);
            Checks.refused("sorted without signs", bench, bench.find(0, one), -9, 4);
            Checks.due("sorted without a sort", Edges.benchOf(kind, -INF, -1, -0.0, 0.0, 1, INF, NAN).find(0, one), 4);
        }
    }

    private static void alikeNextToEachOther() {
        Checks.says("Promise 16: (those alike may be next to each other)");
        for (int kind : Edges.KINDS) {
            Checks.due("two at the front", Edges.benchOf(kind, 1, 1, 2).find(0, Edges.of(kind, 2)), 2);
            Checks.due("two at the end", Edges.benchOf(kind, 1, 2, 2).find(0, Edges.of(kind, 2)), 1);
            Checks.due("NaN twice", Edges.bench(kind, 1, -1, Edges.nan(kind)).find(0, 1), 0);
            Checks.due("-INFINITE twice", Edges.benchOf(kind, -INF, -INF, 1).find(0, Edges.of(kind, 1)), 2);
            Checks.due("zeros twice", Edges.benchOf(kind, -0.0, -0.0, 0.0, 0.0).find(0, 0), 2);
            ReckonBench bench = Edges.benchOf(kind, 1, 2, 1);
            Checks.refused("not next to each other", bench, bench.find(0, Edges.of(kind, 1)), -9, 4);
        }
    }
}
