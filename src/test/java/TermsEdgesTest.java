/** The edges that "Terms" names, sentence by sentence; those of REFUSALS are in CallsEdgesTest. */
public final class TermsEdgesTest {
    public static void main(String[] args) {
        layout();
        bitsOfSingles();
        lowest32();
        zerosAndInfiniteOnes();
        nanCountsAsOne();
        zerosHaveOneValue();
        sorts();
        signOfSorts();
        nearest();
        twoAsNear();
        beyondTheGreatest();
        signOfZeros();
        comparesByValues();
        comparesNan();
        totalOrder();
        nextNumber();
        noneBeyondInfinite();
        zeroComeTo();
        rowNumbers();
        rowLengths();
        oneKind();
        zeroAtFirst();
        placesFromZero();
        Checks.end();
    }

    private static void layout() {
        Checks.says("DOUBLE (binary64 of IEEE 754: a sign, 11 bits of exponent, 52 of fraction) and SINGLE"
                + " (binary32: a sign, 8, 23).");
        Checks.due("1", wholeBits(Edges.DOUBLE, 1), 1023L << 52);
        Checks.due("1", wholeBits(Edges.SINGLE, 1), 127L << 23);
        Checks.due("all 53 bits set", wholeBits(Edges.DOUBLE, (1L << 53) - 1), (1023L + 53 << 52) - 1);
        Checks.due("all 24 bits set", wholeBits(Edges.SINGLE, (1L << 24) - 1), (127L + 24 << 23) - 1);
        Checks.due("2^53", wholeBits(Edges.DOUBLE, 1L << 53), 1023L + 53 << 52);
        Checks.due("2^24", wholeBits(Edges.SINGLE, 1L << 24), 127L + 24 << 23);
        for (int kind : Edges.KINDS) {
            long normal = kind == Edges.DOUBLE ? 1L << 52 : 1L << 23;
            long greatest = normal - 1;
            Checks.due("the least exponents meet", Edges.acted(kind, 8, greatest, 1), normal);
            Checks.due("the least exponents meet", Edges.acted(kind, 9, normal, 1), greatest);
            Checks.due("half of the least normal one", Edges.acted(kind, 10, normal, Edges.of(kind, 0.5)),
                    normal / 2);
            Checks.due("twice that", Edges.acted(kind, 8, normal / 2, normal / 2), normal);
            Checks.due("the least by itself", Edges.acted(kind, 11, 1, 1), Edges.of(kind, 1));
        }
        Checks.due("the least SINGLE one is 2^-149", Edges.turned(Edges.SINGLE, 1), Checks.d(0x1p-149));
        Checks.due("the greatest SINGLE one", Edges.turned(Edges.SINGLE, 0x7F7FFFFF), Checks.d(0x1.fffffep127));
    }

    private static long wholeBits(int kind, long v) {
        ReckonBench bench = Edges.bench(kind, 0);
        bench.whole(0, 0, v);
        return bench.get(0, 0);
    }

    private static void bitsOfSingles() {
        Checks.says("The BITS of one: these, the sign first, as a long; of a SINGLE one 0 to 4294967295");
        Checks.due("DOUBLE 0", Edges.bench(Edges.DOUBLE, 0).get(0, 0), 0);
        Checks.due("DOUBLE -0", Edges.acted(Edges.DOUBLE, 13, 0, 0), Long.MIN_VALUE);
        Checks.due("DOUBLE -1", wholeBits(Edges.DOUBLE, -1), -4616189618054758400L);
        Checks.due("DOUBLE -INFINITE", Edges.bench(Edges.DOUBLE, -4503599627370496L).get(0, 0), -4503599627370496L);
        Checks.due("SINGLE 0", Edges.bench(Edges.SINGLE, 0).get(0, 0), 0);
        Checks.due("SINGLE -0", Edges.acted(Edges.SINGLE, 13, 0, 0), 2147483648L);
        Checks.due("SINGLE -1", wholeBits(Edges.SINGLE, -1), 3212836864L);
        Checks.due("SINGLE -INFINITE", Edges.bench(Edges.SINGLE, 4286578688L).get(0, 0), 4286578688L);
        Checks.due("the sum's too", Edges.benchOf(Edges.SINGLE, -1, -2).sum(0, 0), 3225419776L);
    }

    private static void lowest32() {
        Checks.says("(of a long that is told its lowest 32 count)");
        long[][] toldAndKept = {
            {2147483647L, 2143289344L}, {2147483648L, 2147483648L}, {4294967295L, 2143289344L},
            {4294967296L, 0}, {4294967297L, 1}, {-1, 2143289344L}, {-2147483648L, 2147483648L},
            {-2147483647L, 2147483649L}, {Long.MIN_VALUE, 0}, {Long.MIN_VALUE + 1, 1},
            {Long.MAX_VALUE, 2143289344L}, {0x7FF0000000000000L, 0}, {0x7FFFFFFF3F800000L, 0x3F800000L},
        };
        ReckonBench bench = Edges.bench(Edges.SINGLE, 5);
        ReckonBench sought = Edges.bench(Edges.SINGLE, 5);
        for (long[] told : toldAndKept) {
            bench.set(0, 0, told[0]);
            Checks.due("set " + told[0], bench.get(0, 0), told[1]);
            sought.set(0, 0, told[1]);
            Checks.due("find " + told[0], sought.find(0, told[0]), 0);
        }
        ReckonBench doubles = Edges.bench(Edges.DOUBLE, 4294967297L);
        Checks.due("of a DOUBLE one all count", doubles.get(0, 0), 4294967297L);
        Checks.due("of a DOUBLE one all count", doubles.find(0, 1), -1);
    }

    private static void zerosAndInfiniteOnes() {
        Checks.says("There are two zeros, 0 and -0, two INFINITE ones, + and -, and NaN, which is none");
        for (int kind : Edges.KINDS) {
            long infinite = Edges.infinite(kind);
            long[] four = {0, Edges.minusZero(kind), infinite, Edges.minus(kind, infinite)};
            ReckonBench bench = Edges.bench(kind, four);
            Edges.rowIs("each stays itself", bench, 0, four);
            Checks.due("neither of them is NaN", bench.sum(0, 0), Edges.nan(kind));
            bench = Edges.bench(kind, infinite - 1, infinite, infinite + 1);
            Edges.rowIs("about INFINITE", bench, 0, infinite - 1, infinite, Edges.nan(kind));
        }
    }

    private static void nanCountsAsOne() {
        Checks.says("all BITS that mean NaN count as one, whose BITS are 9221120237041090560"
                + " (SINGLE 2143289344).");
        long[][] bitsOfNan = {
            {Checks.INF + 1, Checks.NAN - 1, Checks.NAN, Checks.NAN + 1, Long.MAX_VALUE,
                (Checks.MINUS | Checks.INF) + 1, Checks.MINUS | Checks.NAN, -1},
            {Checks.INF_S + 1, Checks.NAN_S - 1, Checks.NAN_S, Checks.NAN_S + 1, 2147483647L,
                (Checks.MINUS_S | Checks.INF_S) + 1, Checks.MINUS_S | Checks.NAN_S, 4294967295L},
        };
        for (int kind : Edges.KINDS) {
            long one = kind == Edges.DOUBLE ? 9221120237041090560L : 2143289344L;
            ReckonBench bench = Edges.bench(kind, 0, one);
            for (long bits : bitsOfNan[kind]) {
                Checks.due("set " + bits, bench.set(0, 0, bits), 3);
                Checks.due("get of " + bits, bench.get(0, 0), one);
                Checks.due("find " + bits, bench.find(0, bits), 0);
                Checks.due("total of " + bits, bench.total(0, 0, 1), 0);
            }
            long[] none = {Edges.infinite(kind), Edges.minus(kind, Edges.infinite(kind))};
            for (long bits : none) {
                bench.set(0, 0, bits);
                Checks.due("next to NaN's bits stands INFINITE", bench.get(0, 0), bits);
            }
            Checks.due("sorting many moves none", Edges.bench(kind, bitsOfNan[kind]).sort(0, 1), 0);
            Checks.due("0 / 0", Edges.acted(kind, 11, Edges.minusZero(kind), 0), one);
            Checks.due("turned", Edges.turned(1 - kind, -1), one);
        }
    }

    private static void zerosHaveOneValue() {
        Checks.says("The VALUE of any other one is the real number that it means; both zeros have the VALUE 0.");
        for (int kind : Edges.KINDS) {
            long minus = Edges.minusZero(kind);
            ReckonBench bench = Edges.bench(kind, 0, minus, 1, Edges.minus(kind, 1));
            Checks.due("0 and -0", bench.compare(0, 0, 1), 26);
            Checks.due("-0 and 0", bench.compare(0, 1, 0), 26);
            Checks.due("the least is above -0", bench.compare(0, 2, 1), 52);
            Checks.due("what is next below 0 is below -0", bench.compare(0, 3, 1), 41);
            Checks.due("cut of -0", bench.cut(0, 1, false), 0);
            Checks.due("alike in VALUE they stand as they stood", Edges.bench(kind, 0, minus).sort(0, 2), 0);
            Checks.due("-0 leaves a sum as it is", Edges.acted(kind, 8, Edges.of(kind, 5), minus), Edges.of(kind, 5));
        }
    }

    private static void sorts() {
        Checks.says("The SORT of a number: 0 a zero, 1 another finite one, 2 INFINITE, 3 NaN");
        for (int kind : Edges.KINDS) {
            long infinite = Edges.infinite(kind);
            sortIs(kind, 0, 0);
            sortIs(kind, 1, 1);
            sortIs(kind, Edges.of(kind, 1), 1);
            sortIs(kind, infinite - 1, 1);
            sortIs(kind, infinite, 2);
            sortIs(kind, infinite + 1, 3);
            sortIs(kind, Edges.minusZero(kind) - 1, 3);
        }
    }

    private static void signOfSorts() {
        Checks.says("4 more if its sign is - (of NaN never).");
        for (int kind : Edges.KINDS) {
            long infinite = Edges.infinite(kind);
            sortIs(kind, Edges.minusZero(kind), 4);
            sortIs(kind, Edges.minus(kind, 1), 5);
            sortIs(kind, Edges.minus(kind, infinite - 1), 5);
            sortIs(kind, Edges.minus(kind, infinite), 6);
            sortIs(kind, Edges.minus(kind, infinite + 1), 3);
            sortIs(kind, -1, 3);
        }
        ReckonBench bench = Edges.bench(Edges.DOUBLE, 0);
        Checks.due("whole -1", bench.whole(0, 0, -1), 5);
        Checks.due("whole 0", bench.whole(0, 0, 0), 0);
        Checks.due("whole 1", bench.whole(0, 0, 1), 1);
    }

    /** By each method that answers a SORT and can hold these bits. */
    private static void sortIs(int kind, long bits, int sort) {
        ReckonBench bench = Edges.bench(kind, 0, 0, 0, Edges.minusZero(kind));
        Checks.due("set " + bits, bench.set(0, 0, bits), sort);
        Checks.due("move " + bits, bench.move(0, 0, 0, 1, false), sort);
        Checks.due("act on " + bits, bench.act(0, 7, 0, 0, 2), sort);
        Checks.due("act for the sum of it and -0", bench.act(0, 8, 0, 3, 2), sort);
    }

    private static void nearest() {
        Checks.says("A real VALUE ROUNDED to a KIND: the nearest number of it");
        Checks.due("2^54 + 1", wholeBits(Edges.DOUBLE, (1L << 54) + 1), Checks.d(0x1p54));
        Checks.due("2^54 + 3", wholeBits(Edges.DOUBLE, (1L << 54) + 3), Checks.d(0x1p54) + 1);
        Checks.due("2^25 + 1", wholeBits(Edges.SINGLE, (1L << 25) + 1), Checks.s(0x1p25f));
        Checks.due("2^25 + 3", wholeBits(Edges.SINGLE, (1L << 25) + 3), Checks.s(0x1p25f) + 1);
        double half = 1 + 0x1p-24;
        Checks.due("just below the middle", turnedOf(Math.nextDown(half)), Checks.s(1));
        Checks.due("just above the middle", turnedOf(Math.nextUp(half)), Checks.s(1) + 1);
        Checks.due("just above, -", turnedOf(-Math.nextUp(half)), Checks.s(-1) + 1);
        Checks.due("1 + a bit less than half", Edges.acted(Edges.DOUBLE, 8, Checks.d(1), Checks.d(0x1p-53) - 1),
                Checks.d(1));
        Checks.due("1 + a bit more than half", Edges.acted(Edges.DOUBLE, 8, Checks.d(1), Checks.d(0x1p-53) + 1),
                Checks.d(1) + 1);
        Checks.due("0.75 of the least", Edges.acted(Edges.DOUBLE, 10, 1, Checks.d(0.75)), 1);
        Checks.due("0.25 of the least", Edges.acted(Edges.SINGLE, 10, 1, Checks.s(0.25f)), 0);
    }

    private static long turnedOf(double value) {
        return Edges.turned(Edges.DOUBLE, Checks.d(value));
    }

    private static void twoAsNear() {
        Checks.says("of two as near the one whose last bit is 0");
        Checks.due("2^53 + 1", wholeBits(Edges.DOUBLE, (1L << 53) + 1), Checks.d(0x1p53));
        Checks.due("2^53 + 3", wholeBits(Edges.DOUBLE, (1L << 53) + 3), Checks.d(0x1p53) + 2);
        Checks.due("-2^53 - 1", wholeBits(Edges.DOUBLE, -(1L << 53) - 1), Checks.d(-0x1p53));
        Checks.due("-2^53 - 3", wholeBits(Edges.DOUBLE, -(1L << 53) - 3), Checks.d(-0x1p53) + 2);
        Checks.due("2^24 + 1", wholeBits(Edges.SINGLE, (1L << 24) + 1), Checks.s(0x1p24f));
        Checks.due("2^24 + 3", wholeBits(Edges.SINGLE, (1L << 24) + 3), Checks.s(0x1p24f) + 2);
        Checks.due("all bits set and a half", wholeBits(Edges.SINGLE, (1L << 25) - 1), Checks.s(0x1p25f));
        Checks.due("turned, even below", turnedOf(1 + 0x1p-24), Checks.s(1));
        Checks.due("turned, even above", turnedOf(1 + 3 * 0x1p-24), Checks.s(1) + 2);
        for (int kind : Edges.KINDS) {
            long half = Edges.of(kind, 0.5);
            long one = Edges.of(kind, 1);
            long halfOfLast = Edges.of(kind, kind == Edges.DOUBLE ? 0x1p-53 : 0x1p-24);
            Checks.due("sum, even below", Edges.acted(kind, 8, one, halfOfLast), one);
            Checks.due("sum, even above", Edges.acted(kind, 8, one + 1, halfOfLast), one + 2);
            Checks.due("1 * 0.5 of the last bit", Edges.acted(kind, 10, 1, half), 0);
            Checks.due("3 * 0.5", Edges.acted(kind, 10, 3, half), 2);
            Checks.due("5 / 2", Edges.acted(kind, 11, 5, Edges.of(kind, 2)), 2);
            Checks.due("7 / 2", Edges.acted(kind, 11, 7, Edges.of(kind, 2)), 4);
        }
    }

    private static void beyondTheGreatest() {
        Checks.says("(2^1024, of SINGLE 2^128, counts as one of them and is INFINITE, and so is all that is"
                + " beyond)");
        for (int kind : Edges.KINDS) {
            long most = Edges.most(kind);
            long infinite = Edges.infinite(kind);
            long half = Edges.of(kind, kind == Edges.DOUBLE ? 0x1p970 : 0x1p103);
            Checks.due("as near to the greatest", Edges.acted(kind, 8, most, half), infinite);
            Checks.due("nearer to the greatest", Edges.acted(kind, 8, most, half - 1), most);
            Checks.due("-, as near", Edges.acted(kind, 9, Edges.minus(kind, most), half), Edges.minus(kind, infinite));
            Checks.due("-, nearer", Edges.acted(kind, 9, Edges.minus(kind, most), half - 1), Edges.minus(kind, most));
            Checks.due("just 2^1024 or 2^128", Edges.acted(kind, 11, Edges.of(kind, kind == Edges.DOUBLE ? 0x1p1023
                    : 0x1p127), Edges.of(kind, 0.5)), infinite);
            Checks.due("twice the greatest", Edges.acted(kind, 8, most, most), infinite);
            Checks.due("the greatest by itself", Edges.acted(kind, 10, most, Edges.minus(kind, most)),
                    Edges.minus(kind, infinite));
            Checks.due("the greatest over the least", Edges.acted(kind, 11, most, 1), infinite);
            Checks.due("the greatest times 1", Edges.acted(kind, 10, most, Edges.of(kind, 1)), most);
        }
        double middle = 0x1.ffffffp127;
        Checks.due("turned, as near", turnedOf(middle), Checks.INF_S);
        Checks.due("turned, nearer to the greatest", turnedOf(Math.nextDown(middle)), Checks.INF_S - 1);
        Checks.due("turned, -, as near", turnedOf(-middle), Edges.minus(Edges.SINGLE, Checks.INF_S));
        Checks.due("turned 2^128", turnedOf(0x1p128), Checks.INF_S);
        Checks.due("turned, the greatest DOUBLE one", turnedOf(Double.MAX_VALUE), Checks.INF_S);
        Checks.due("turned, the greatest SINGLE one", turnedOf(Float.MAX_VALUE), Checks.INF_S - 1);
    }

    private static void signOfZeros() {
        Checks.says("what becomes a zero so has the real VALUE's sign.");
        for (int kind : Edges.KINDS) {
            long minus = Edges.minusZero(kind);
            long half = Edges.of(kind, 0.5);
            long least = Edges.minus(kind, 1);
            Checks.due("half of the least", Edges.acted(kind, 10, 1, half), 0);
            Checks.due("half of the least, -", Edges.acted(kind, 10, least, half), minus);
            Checks.due("a bit more than half", Edges.acted(kind, 10, 1, half + 1), 1);
            Checks.due("a bit more than half, -", Edges.acted(kind, 10, least, half + 1), least);
            Checks.due("far less", Edges.acted(kind, 10, 1, least), minus);
            Checks.due("far less", Edges.acted(kind, 10, least, least), 0);
            Checks.due("divided", Edges.acted(kind, 11, least, Edges.most(kind)), minus);
            Checks.due("divided", Edges.acted(kind, 11, 1, Edges.most(kind)), 0);
        }
        Checks.due("turned", turnedOf(0x1p-150), 0);
        Checks.due("turned, -", turnedOf(-0x1p-150), Checks.MINUS_S);
        Checks.due("turned, above the half", turnedOf(Math.nextUp(0x1p-150)), 1);
        Checks.due("turned, -, above the half", turnedOf(-Math.nextUp(0x1p-150)), Checks.MINUS_S | 1);
        Checks.due("turned, the least DOUBLE ones", turnedOf(Double.MIN_VALUE), 0);
        Checks.due("turned, the least DOUBLE ones", turnedOf(-Double.MIN_VALUE), Checks.MINUS_S);
    }

    private static void comparesByValues() {
        Checks.says("COMPARES: of two that aren't NaN by their VALUES, INFINITE ones beyond all");
        for (int kind : Edges.KINDS) {
            long most = Edges.most(kind);
            long infinite = Edges.infinite(kind);
            long minusInfinite = Edges.minus(kind, infinite);
            ReckonBench bench = Edges.bench(kind, most, infinite, Edges.minus(kind, most), minusInfinite);
            Checks.due("the greatest, INFINITE", bench.compare(0, 0, 1), 41);
            Checks.due("INFINITE, the greatest", bench.compare(0, 1, 0), 52);
            Checks.due("-INFINITE, the least", bench.compare(0, 3, 2), 41);
            Checks.due("the least, -INFINITE", bench.compare(0, 2, 3), 52);
            Checks.due("-INFINITE, INFINITE", bench.compare(0, 3, 1), 41);
            Checks.due("INFINITE, itself", bench.compare(0, 1, 1), 26);
            Checks.due("-INFINITE, itself", bench.compare(0, 3, 3), 26);
            Checks.due("INFINITE lies between itself", bench.between(0, 1, 3, 1), 3);
            Checks.due("beyond the greatest", bench.between(0, 1, 2, 0), 0);
        }
    }

    private static void comparesNan() {
        Checks.says("with NaN nothing holds, but that they are unlike.");
        for (int kind : Edges.KINDS) {
            long infinite = Edges.infinite(kind);
            ReckonBench bench = Edges.bench(kind, Edges.nan(kind), Edges.nan(kind), infinite,
                    Edges.minus(kind, infinite), 0, Edges.minusZero(kind), Edges.of(kind, 1));
            for (int i = 0; i < 7; i++) {
                Checks.due("NaN and place " + i, bench.compare(0, 0, i), 32);
                Checks.due("place " + i + " and NaN", bench.compare(0, i, 0), 32);
                Checks.due("place " + i + " in no bounds", bench.between(0, i, 0, 1), 2);
            }
            Checks.due("two that aren't NaN", bench.compare(0, 6, 6), 26);
        }
    }

    private static void totalOrder() {
        Checks.says("TOTAL ORDER: NaN above all, -0 below 0, the others by COMPARES.");
        for (int kind : Edges.KINDS) {
            long infinite = Edges.infinite(kind);
            long[] upward = {Edges.minus(kind, infinite), Edges.minus(kind, infinite - 1), Edges.minus(kind, 1),
                Edges.minusZero(kind), 0, 1, Edges.of(kind, 1), infinite - 1, infinite, Edges.nan(kind)};
            ReckonBench bench = Edges.bench(kind, upward);
            for (int i = 0; i < upward.length; i++) {
                for (int j = 0; j < upward.length; j++) {
                    Checks.due("total " + i + ", " + j, bench.total(0, i, j), Integer.compare(i, j));
                }
            }
            Checks.due("it is in order", bench.sort(0, 0), 0);
            Checks.due("it is found", bench.find(0, Edges.nan(kind)), 9);
        }
    }

    private static void nextNumber() {
        Checks.says("The next number UPWARD (DOWNWARD) of one: the least (greatest) of its KIND that is above"
                + " (below) it by COMPARES");
        for (int kind : Edges.KINDS) {
            long minus = Edges.minusZero(kind);
            long one = Edges.of(kind, 1);
            Checks.due("above 0", Edges.stepped(kind, 0, 1), 1);
            Checks.due("above -0", Edges.stepped(kind, minus, 1), 1);
            Checks.due("below 0", Edges.stepped(kind, 0, -1), minus | 1);
            Checks.due("below -0", Edges.stepped(kind, minus, -1), minus | 1);
            Checks.due("above 1", Edges.stepped(kind, one, 1), one + 1);
            Checks.due("below 1", Edges.stepped(kind, one, -1), one - 1);
            Checks.due("above -1", Edges.stepped(kind, minus | one, 1), minus | one - 1);
            Checks.due("below -1", Edges.stepped(kind, minus | one, -1), minus | one + 1);
        }
    }

    private static void noneBeyondInfinite() {
        Checks.says("there is none beyond the INFINITE ones");
        for (int kind : Edges.KINDS) {
            long infinite = Edges.infinite(kind);
            long minusInfinite = Edges.minus(kind, infinite);
            Checks.due("above INFINITE", Edges.stepped(kind, infinite, 1), infinite);
            Checks.due("below -INFINITE", Edges.stepped(kind, minusInfinite, -1), minusInfinite);
            Checks.due("above the greatest", Edges.stepped(kind, infinite - 1, 1), infinite);
            Checks.due("below the least", Edges.stepped(kind, minusInfinite - 1, -1), minusInfinite);
            Checks.due("below INFINITE", Edges.stepped(kind, infinite, -1), infinite - 1);
            Checks.due("above -INFINITE", Edges.stepped(kind, minusInfinite, 1), minusInfinite - 1);
            ReckonBench bench = Edges.bench(kind, infinite, infinite, minusInfinite, minusInfinite);
            bench.interval(0, 0, 0, 0);
            bench.interval(0, 1, 1, 0);
            Edges.rowIs("bounds outward", bench, 0, infinite - 1, infinite, minusInfinite, minusInfinite - 1);
        }
    }

    private static void zeroComeTo() {
        Checks.says("a zero that is come to so is -0 from below, 0 from above.");
        for (int kind : Edges.KINDS) {
            long minus = Edges.minusZero(kind);
            Checks.due("from below", Edges.stepped(kind, minus | 1, 1), minus);
            Checks.due("from above", Edges.stepped(kind, 1, -1), 0);
            Checks.due("from far below", Edges.stepped(kind, minus | 1000000000, 1000000000), minus);
            Checks.due("from far above", Edges.stepped(kind, 1000000000, -1000000000), 0);
            Checks.due("past it from below", Edges.stepped(kind, minus | 1, 2), 1);
            Checks.due("past it from above", Edges.stepped(kind, 1, -2), minus | 1);
            ReckonBench bench = Edges.bench(kind, 1, 1, minus | 1, minus | 1, 0, 0);
            bench.interval(0, 0, 2, 0);
            bench.interval(0, 1, 2, 0);
            Edges.rowIs("a bound that comes to it", bench, 0, 0, 2, minus | 2, minus);
        }
    }

    private static void rowNumbers() {
        Checks.says("ROWS are numbered from 0 on");
        ReckonBench bench = new ReckonBench();
        for (int row = 0; row < 64; row++) {
            Checks.due("row " + row, bench.row(1, row % 2 == 1), row);
        }
        Checks.due("row -1", bench.set(-1, 0, 1), -9);
        Checks.due("row 0", bench.set(0, 0, 1), 1);
        Checks.due("row 63", bench.set(63, 0, 1), 1);
        Checks.due("row 64", bench.set(64, 0, 1), -9);
    }

    private static void rowLengths() {
        Checks.says("and have 1 to 500 NUMBERS");
        for (int kind : Edges.KINDS) {
            ReckonBench bench = new ReckonBench();
            Checks.due("of 0", bench.row(0, Edges.single(kind)), -9);
            Checks.due("of 1", bench.row(1, Edges.single(kind)), 0);
            Checks.due("of 500", bench.row(500, Edges.single(kind)), 1);
            Checks.due("of 501", bench.row(501, Edges.single(kind)), -9);
            Checks.due("the only place", bench.set(0, 0, 1), 1);
            Checks.due("behind it", bench.set(0, 1, 1), -9);
            Checks.due("the last place", bench.set(1, 499, 1), 1);
            Checks.due("behind it", bench.set(1, 500, 1), -9);
        }
    }

    private static void oneKind() {
        Checks.says("of one KIND");
        ReckonBench bench = new ReckonBench();
        bench.row(2, false);
        bench.row(2, true);
        long third = Edges.acted(Edges.DOUBLE, 11, Checks.d(1), Checks.d(3));
        for (int row = 0; row < 2; row++) {
            for (int i = 0; i < 2; i++) {
                bench.whole(row, i, 16777217);
                Checks.due("row " + row, bench.cut(row, i, false), 16777217 - row);
            }
        }
        bench.set(0, 0, third);
        Checks.due("DOUBLE to SINGLE", bench.move(0, 0, 1, 1, true), 1);
        Checks.due("it is a SINGLE one there", bench.get(1, 1), Checks.s(1f / 3));
        Checks.due("and a DOUBLE one still here", bench.get(0, 0), third);
        Checks.due("beside it too", bench.get(1, 0), Checks.s(16777216));
    }

    private static void zeroAtFirst() {
        Checks.says("all 0 at first");
        for (int kind : Edges.KINDS) {
            ReckonBench bench = new ReckonBench();
            bench.row(500, Edges.single(kind));
            for (int i = 0; i < 500; i++) {
                Checks.due("place " + i, bench.get(0, i), 0);
            }
            bench = Edges.bench(kind, 7, 7);
            bench.row(2, Edges.single(kind));
            Edges.rowIs("a row made later", bench, 1, 0, 0);
            bench = new ReckonBench();
            bench.row(3, Edges.single(kind));
            Checks.due("no -0 among them", bench.sort(0, 0), 0);
            Checks.due("no -0 among them", bench.find(0, Edges.minusZero(kind)), -1);
            Checks.due("0 is found", bench.find(0, 0), 0);
        }
    }

    private static void placesFromZero() {
        Checks.says("in PLACES from 0 on.");
        for (int kind : Edges.KINDS) {
            ReckonBench bench = Edges.bench(kind, 5, 6, 7);
            Checks.due("place -1", bench.set(0, -1, 1), -9);
            Checks.due("place 3", bench.set(0, 3, 1), -9);
            Edges.rowIs("places 0 to 2", bench, 0, 5, 6, 7);
            Checks.due("the first to be found", bench.find(0, 5), 0);
            Checks.due("the last to be found", bench.find(0, 7), 2);
            Checks.due("the least", bench.least(0), 0);
            Checks.due("the greatest", bench.greatest(0), 2);
        }
    }
}
