/**
 * A bench of rows of numbers, of doubles and of singles, put in and taken out by their bits.
 * Every number is held and reckoned with as its bits, in whole numbers alone.
 */
public final class ReckonBench {
    private static final int MOST_ROWS = 64;
    private static final int MOST_NUMBERS = 4000;
    private static final int LONGEST_ROW = 500;
    private static final int LONGEST_STEP = 1000000000;
    private static final int LAST_SORT_WAY = 2;
    private static final long LEAST_INT = -2147483648L;
    private static final long GREATEST_INT = 2147483647L;
    private static final long LEAST_LONG = 1L << 63;
    private static final long GREATEST_LONG = LEAST_LONG - 1;

    private static final int SUM_PLAIN = 0;
    private static final int SUM_CARRIED = 1;
    private static final int SUM_HALVED = 2;

    private static final int REFUSED = -9;
    private static final int ABSENT = -1;

    private static final int ANSWERED = 0;
    private static final int NO_ROW = 1;
    private static final int OUT_OF_RANGE = 2;
    private static final int UNLIKE_KINDS = 3;
    private static final int NOT_SORTED = 4;
    private static final int NO_ROOM = 5;

    private final Row[] rows;
    private final Sorter sorter;
    private int rowCount;
    private int numberCount;
    private int reason;

    public ReckonBench() {
        rows = new Row[MOST_ROWS];
        sorter = new Sorter();
        rowCount = 0;
        numberCount = 0;
        reason = ANSWERED;
    }

    public int row(int n, boolean single) {
        if (n < 1 || n > LONGEST_ROW) {
            return refuse(OUT_OF_RANGE);
        }
        if (rowCount >= MOST_ROWS || n > MOST_NUMBERS - numberCount) {
            return refuse(NO_ROOM);
        }
        int number = rowCount;
        rows[number] = new Row(single ? Kind.SINGLE : Kind.DOUBLE, n);
        rowCount++;
        numberCount += n;
        return answer(number);
    }

    public int set(int row, int i, long bits) {
        Row held = rowAt(row);
        if (held == null) {
            return refuse(NO_ROW);
        }
        if (!held.has(i)) {
            return refuse(OUT_OF_RANGE);
        }
        return answer(held.put(i, held.kind.cleaned(bits)));
    }

    public int whole(int row, int i, long v) {
        Row held = rowAt(row);
        if (held == null) {
            return refuse(NO_ROW);
        }
        if (!held.has(i)) {
            return refuse(OUT_OF_RANGE);
        }
        return answer(held.put(i, Reckoning.ofWhole(held.kind, v)));
    }

    public long get(int row, int i) {
        Row held = rowAt(row);
        if (held == null) {
            return refuseLong(NO_ROW);
        }
        if (!held.has(i)) {
            return refuseLong(OUT_OF_RANGE);
        }
        return answerLong(held.numbers[i]);
    }

    public long cut(int row, int i, boolean narrow) {
        Row held = rowAt(row);
        if (held == null) {
            return refuseLong(NO_ROW);
        }
        if (!held.has(i)) {
            return refuseLong(OUT_OF_RANGE);
        }
        long whole = Reckoning.cutOff(held.kind, held.numbers[i]);
        if (narrow) {
            whole = Math.max(LEAST_INT, Math.min(GREATEST_INT, whole));
        }
        return answerLong(whole);
    }

    public int compare(int row, int i, int j) {
        Row held = rowAt(row);
        if (held == null) {
            return refuse(NO_ROW);
        }
        if (!held.has(i) || !held.has(j)) {
            return refuse(OUT_OF_RANGE);
        }
        return answer(held.kind.relations(held.numbers[i], held.numbers[j]));
    }

    public int between(int row, int i, int lo, int hi) {
        Row held = rowAt(row);
        if (held == null) {
            return refuse(NO_ROW);
        }
        if (!held.has(i) || !held.has(lo) || !held.has(hi)) {
            return refuse(OUT_OF_RANGE);
        }
        Kind kind = held.kind;
        long x = held.numbers[i];
        long low = held.numbers[lo];
        long high = held.numbers[hi];
        int inside = kind.atMost(low, x) && kind.atMost(x, high) ? 1 : 0;
        int notOutside = kind.isBelow(x, low) || kind.isBelow(high, x) ? 0 : 2;
        return answer(inside + notOutside);
    }

    public int total(int row, int i, int j) {
        Row held = rowAt(row);
        if (held == null) {
            return refuse(NO_ROW);
        }
        if (!held.has(i) || !held.has(j)) {
            return refuse(OUT_OF_RANGE);
        }
        long first = held.kind.totalRank(held.numbers[i]);
        long second = held.kind.totalRank(held.numbers[j]);
        return answer(first < second ? -1 : first > second ? 1 : 0);
    }

    public int sort(int row, int way) {
        Row held = rowAt(row);
        if (held == null) {
            return refuse(NO_ROW);
        }
        if (way < 0 || way > LAST_SORT_WAY) {
            return refuse(OUT_OF_RANGE);
        }
        return answer(sorter.reorder(held, way));
    }

    public int act(int row, int what, int i, int j, int k) {
        Row held = rowAt(row);
        if (held == null) {
            return refuse(NO_ROW);
        }
        if (what < 0 || what > Reckoning.LAST_ACT || !held.has(i) || !held.has(j) || !held.has(k)) {
            return refuse(OUT_OF_RANGE);
        }
        long result = Reckoning.acted(held.kind, what, held.numbers[i], held.numbers[j]);
        return answer(held.put(k, result));
    }

    public int step(int row, int i, int n) {
        Row held = rowAt(row);
        if (held == null) {
            return refuse(NO_ROW);
        }
        if (!held.has(i) || n < -LONGEST_STEP || n > LONGEST_STEP) {
            return refuse(OUT_OF_RANGE);
        }
        Kind kind = held.kind;
        long from = held.numbers[i];
        long to = kind.stepped(from, n);
        held.put(i, to);
        return answer((int) Math.abs(kind.valueRank(to) - kind.valueRank(from)));
    }

    public int least(int row) {
        Row held = rowAt(row);
        if (held == null) {
            return refuse(NO_ROW);
        }
        return answer(held.firstExtreme(false));
    }

    public int greatest(int row) {
        Row held = rowAt(row);
        if (held == null) {
            return refuse(NO_ROW);
        }
        return answer(held.firstExtreme(true));
    }

    public long sum(int row, int way) {
        Row held = rowAt(row);
        if (held == null) {
            return refuseLong(NO_ROW);
        }
        switch (way) {
            case SUM_PLAIN:
                return answerLong(Sums.plain(held.kind, held.numbers));
            case SUM_CARRIED:
                return answerLong(Sums.carried(held.kind, held.numbers));
            case SUM_HALVED:
                return answerLong(Sums.halved(held.kind, held.numbers));
            default:
                return refuseLong(OUT_OF_RANGE);
        }
    }

    public int find(int row, long bits) {
        Row held = rowAt(row);
        if (held == null) {
            return refuse(NO_ROW);
        }
        if (!held.isSorted()) {
            return refuse(NOT_SORTED);
        }
        return answer(held.firstWith(held.kind.cleaned(bits)));
    }

    public int interval(int row, int a, int b, int what) {
        Row held = rowAt(row);
        if (held == null) {
            return refuse(NO_ROW);
        }
        if (!held.hasPair(a) || !held.hasPair(b) || what < 0 || what > Interval.LAST_ACT) {
            return refuse(OUT_OF_RANGE);
        }
        Interval first = held.pair(a);
        Interval second = held.pair(b);
        if (!first.stands() || !second.stands() || what == Interval.OVER && second.hasZero()) {
            held.putPair(a, first.everything());
            return answer(1);
        }
        Interval result = first.acted(what, second);
        if (what == Interval.IN_BOTH && !result.stands()) {
            held.putPair(a, first.nothing());
            return answer(2);
        }
        held.putPair(a, result);
        return answer(0);
    }

    public int move(int row, int i, int other, int j, boolean turns) {
        Row source = rowAt(row);
        if (source == null) {
            return refuse(NO_ROW);
        }
        Row target = rowAt(other);
        if (target == null || !source.has(i) || !target.has(j)) {
            return refuse(OUT_OF_RANGE);
        }
        if (source.kind != target.kind && !turns) {
            return refuse(UNLIKE_KINDS);
        }
        return answer(target.put(j, Reckoning.turned(source.kind, source.numbers[i], target.kind)));
    }

    public int status() {
        return reason;
    }

    private Row rowAt(int number) {
        return number >= 0 && number < rowCount ? rows[number] : null;
    }

    private int refuse(int why) {
        reason = why;
        return REFUSED;
    }

    private long refuseLong(int why) {
        reason = why;
        return 0;
    }

    private int answer(int value) {
        reason = ANSWERED;
        return value;
    }

    private long answerLong(long value) {
        reason = ANSWERED;
        return value;
    }

    /** The numbers of one row. All that stand in it are cleaned: NaN has one form alone. */
    private static final class Row {
        final Kind kind;
        final long[] numbers;

        Row(Kind kind, int length) {
            this.kind = kind;
            this.numbers = new long[length];
        }

        boolean has(int place) {
            return place >= 0 && place < numbers.length;
        }

        boolean hasPair(int pair) {
            return pair >= 0 && pair < numbers.length / 2;
        }

        int put(int place, long bits) {
            numbers[place] = bits;
            return kind.sortOf(bits);
        }

        Interval pair(int pair) {
            return new Interval(kind, numbers[2 * pair], numbers[2 * pair + 1]);
        }

        void putPair(int pair, Interval bounds) {
            numbers[2 * pair] = bounds.low;
            numbers[2 * pair + 1] = bounds.high;
        }

        int firstExtreme(boolean upward) {
            int found = ABSENT;
            for (int place = 0; place < numbers.length; place++) {
                long bits = numbers[place];
                if (kind.isNan(bits)) {
                    continue;
                }
                if (found == ABSENT || isBeyond(bits, numbers[found], upward)) {
                    found = place;
                }
            }
            return found;
        }

        private boolean isBeyond(long bits, long best, boolean upward) {
            return upward ? kind.isBelow(best, bits) : kind.isBelow(bits, best);
        }

        boolean isSorted() {
            for (int place = 1; place < numbers.length; place++) {
                if (kind.totalRank(numbers[place - 1]) > kind.totalRank(numbers[place])) {
                    return false;
                }
            }
            return true;
        }

        int firstWith(long bits) {
            for (int place = 0; place < numbers.length; place++) {
                if (numbers[place] == bits) {
                    return place;
                }
            }
            return ABSENT;
        }
    }

    /** How the bits of a number are laid out, what they mean and how numbers are ordered. */
    private enum Kind {
        DOUBLE(52, 11),
        SINGLE(23, 8);

        final int fractionBits;
        /** The exponent's field of INFINITE ones and of NaN. */
        final int topField;
        /** The power of two that the last bit of the numbers next to zero stands for. */
        final int lowest;
        final long sign;
        final long infinite;
        final long nan;

        Kind(int fractionBits, int exponentBits) {
            this.fractionBits = fractionBits;
            this.topField = (1 << exponentBits) - 1;
            this.lowest = 1 - (topField >> 1) - fractionBits;
            this.sign = 1L << (fractionBits + exponentBits);
            this.infinite = (long) topField << fractionBits;
            this.nan = infinite | 1L << (fractionBits - 1);
        }

        long cleaned(long bits) {
            long kept = bits & (sign | (sign - 1));
            return isNan(kept) ? nan : kept;
        }

        long magnitude(long bits) {
            return bits & (sign - 1);
        }

        boolean isNegative(long bits) {
            return (bits & sign) != 0;
        }

        boolean isNan(long bits) {
            return magnitude(bits) > infinite;
        }

        boolean isInfinite(long bits) {
            return magnitude(bits) == infinite;
        }

        long signed(boolean negative, long magnitude) {
            return negative ? sign | magnitude : magnitude;
        }

        long opposite(long bits) {
            return isNan(bits) ? bits : bits ^ sign;
        }

        long one() {
            return (long) (topField >> 1) << fractionBits;
        }

        int sortOf(long bits) {
            if (isNan(bits)) {
                return 3;
            }
            long magnitude = magnitude(bits);
            int plain = magnitude == 0 ? 0 : magnitude == infinite ? 2 : 1;
            return isNegative(bits) ? plain + 4 : plain;
        }

        /** A finite number's VALUE without its sign is its significand times 2 to its exponent. */
        long significand(long bits) {
            long hidden = 1L << fractionBits;
            long fraction = bits & (hidden - 1);
            return exponentField(bits) == 0 ? fraction : fraction | hidden;
        }

        int exponent(long bits) {
            return Math.max(exponentField(bits), 1) - 1 + lowest;
        }

        private int exponentField(long bits) {
            return (int) (bits >>> fractionBits) & topField;
        }

        /** Orders all but NaN by VALUES; both zeros have the same rank. */
        long valueRank(long bits) {
            return isNegative(bits) ? -magnitude(bits) : magnitude(bits);
        }

        /** Orders all by TOTAL ORDER. */
        long totalRank(long bits) {
            return isNegative(bits) ? -1 - magnitude(bits) : magnitude(bits);
        }

        boolean isBelow(long x, long y) {
            return !isNan(x) && !isNan(y) && valueRank(x) < valueRank(y);
        }

        boolean atMost(long x, long y) {
            return !isNan(x) && !isNan(y) && valueRank(x) <= valueRank(y);
        }

        int relations(long x, long y) {
            if (isBelow(x, y)) {
                return 1 + 8 + 32;
            }
            if (isBelow(y, x)) {
                return 4 + 16 + 32;
            }
            return atMost(x, y) ? 2 + 8 + 16 : 32;
        }

        /** Of two that aren't NaN. */
        long lesser(long x, long y) {
            return totalRank(x) <= totalRank(y) ? x : y;
        }

        /** Of two that aren't NaN. */
        long greater(long x, long y) {
            return totalRank(x) >= totalRank(y) ? x : y;
        }

        long stepped(long bits, int n) {
            if (n == 0 || isNan(bits)) {
                return bits;
            }
            long rank = Math.max(-infinite, Math.min(infinite, valueRank(bits) + n));
            if (rank == 0) {
                return signed(n > 0, 0);
            }
            return signed(rank < 0, Math.abs(rank));
        }

        /**
         * The real value significand * 2^exponent, ROUNDED. The significand is read without a sign.
         * What is not exact may come with the lowest bit set for all that was left off below it,
         * if it has three bits more than a number holds.
         */
        long rounded(boolean negative, long significand, int exponent) {
            if (significand == 0) {
                return signed(negative, 0);
            }
            int length = 64 - Long.numberOfLeadingZeros(significand);
            int dropped = Math.max(length - 1 - fractionBits, lowest - exponent);
            int field = exponent + dropped - lowest;
            if (field >= topField - 1) {
                return signed(negative, infinite);
            }
            // The hidden bit, and a carry out of the rounding, add themselves to the field.
            long magnitude = ((long) field << fractionBits) + withoutLast(significand, dropped);
            return signed(negative, magnitude);
        }

        private static long withoutLast(long significand, int dropped) {
            if (dropped <= 0) {
                return significand << -dropped;
            }
            if (dropped > 63) {
                return 0;
            }
            long kept = significand >>> dropped;
            long rest = significand & ((1L << dropped) - 1);
            long half = 1L << (dropped - 1);
            boolean up = rest > half || rest == half && (kept & 1) == 1;
            return up ? kept + 1 : kept;
        }
    }

    /** What is reckoned with the bits of numbers of one kind. */
    private static final class Reckoning {
        static final int WITHOUT_SIGN = 0;
        static final int GREATER = 1;
        static final int LESSER = 2;
        static final int NOT_ABOVE = 3;
        static final int NOT_BELOW = 4;
        static final int NEAREST = 5;
        static final int SIGN = 6;
        static final int WITH_SIGN_OF = 7;
        static final int PLUS = 8;
        static final int MINUS = 9;
        static final int TIMES = 10;
        static final int OVER = 11;
        static final int REMAINDER = 12;
        static final int OPPOSITE = 13;
        static final int LAST_ACT = OPPOSITE;

        /** Bits of a long that stand free above the longest significand, of 53 bits. */
        private static final int FREE_BITS = 11;
        /** A significand can go this far to the left, and a sum of two such stays in a long. */
        private static final int SUM_SHIFT = 9;
        /** What is less than a significand can go this far to the left and stays in a long. */
        private static final int REST_SHIFT = 10;
        private static final int QUOTIENT_ROUNDS = 6;
        private static final int PRODUCT_SHIFT = 44;

        static long acted(Kind kind, int what, long x, long y) {
            if (kind.isNan(x) || namesSecond(what) && kind.isNan(y)) {
                return kind.nan;
            }
            switch (what) {
                case WITHOUT_SIGN:
                    return kind.magnitude(x);
                case GREATER:
                    return kind.greater(x, y);
                case LESSER:
                    return kind.lesser(x, y);
                case NOT_ABOVE:
                case NOT_BELOW:
                case NEAREST:
                    return toWhole(kind, x, what);
                case SIGN:
                    return kind.magnitude(x) == 0 ? x : kind.signed(kind.isNegative(x), kind.one());
                case WITH_SIGN_OF:
                    return kind.signed(kind.isNegative(y), kind.magnitude(x));
                case PLUS:
                    return plus(kind, x, y);
                case MINUS:
                    return minus(kind, x, y);
                case TIMES:
                    return times(kind, x, y);
                case OVER:
                    return over(kind, x, y);
                case REMAINDER:
                    return remainder(kind, x, y);
                default:
                    return kind.opposite(x);
            }
        }

        private static boolean namesSecond(int what) {
            return what == GREATER || what == LESSER || what >= WITH_SIGN_OF && what <= REMAINDER;
        }

        static long ofWhole(Kind kind, long value) {
            // The least long stays as it is, and is read without a sign.
            return kind.rounded(value < 0, value < 0 ? -value : value, 0);
        }

        static long turned(Kind from, long bits, Kind to) {
            if (from.isNan(bits)) {
                return to.nan;
            }
            boolean negative = from.isNegative(bits);
            if (from.isInfinite(bits)) {
                return to.signed(negative, to.infinite);
            }
            return to.rounded(negative, from.significand(bits), from.exponent(bits));
        }

        static long cutOff(Kind kind, long bits) {
            if (kind.isNan(bits)) {
                return 0;
            }
            boolean negative = kind.isNegative(bits);
            long significand = kind.significand(bits);
            int exponent = kind.exponent(bits);
            if (exponent < 0) {
                long whole = significand >>> Math.min(-exponent, 63);
                return negative ? -whole : whole;
            }
            if (exponent >= Long.numberOfLeadingZeros(significand)) {
                return negative ? LEAST_LONG : GREATEST_LONG;
            }
            long whole = significand << exponent;
            return negative ? -whole : whole;
        }

        private static long toWhole(Kind kind, long x, int what) {
            int exponent = kind.exponent(x);
            if (kind.isInfinite(x) || exponent >= 0) {
                return x;
            }
            boolean negative = kind.isNegative(x);
            long significand = kind.significand(x);
            // Beyond 62 bits nothing changes: the whole part is 0, the rest less than a half.
            int dropped = Math.min(-exponent, 62);
            long whole = significand >>> dropped;
            long rest = significand - (whole << dropped);
            boolean away;
            if (what == NEAREST) {
                long half = 1L << (dropped - 1);
                away = rest > half || rest == half && (whole & 1) == 1;
            } else {
                away = rest != 0 && negative == (what == NOT_ABOVE);
            }
            return kind.rounded(negative, away ? whole + 1 : whole, 0);
        }

        static long minus(Kind kind, long x, long y) {
            return plus(kind, x, kind.opposite(y));
        }

        static long plus(Kind kind, long x, long y) {
            if (kind.isNan(x) || kind.isNan(y)) {
                return kind.nan;
            }
            if (kind.isInfinite(x)) {
                return kind.isInfinite(y) && x != y ? kind.nan : x;
            }
            if (kind.isInfinite(y)) {
                return y;
            }
            boolean turn = kind.magnitude(x) < kind.magnitude(y);
            return turn ? plusLesser(kind, y, x) : plusLesser(kind, x, y);
        }

        /** Of two finite ones, y without its sign at most x without its sign. */
        private static long plusLesser(Kind kind, long x, long y) {
            int exponent = kind.exponent(x);
            int apart = exponent - kind.exponent(y);
            int shift = Math.min(apart, SUM_SHIFT);
            long first = kind.significand(x) << shift;
            long second = shiftedRight(kind.significand(y), apart - shift);
            boolean negative = kind.isNegative(x);
            boolean alike = negative == kind.isNegative(y);
            long sum = alike ? first + second : first - second;
            if (sum == 0) {
                return kind.signed(negative && alike, 0);
            }
            return kind.rounded(negative, sum, exponent - shift);
        }

        /** The lowest bit is set if any was left off. */
        private static long shiftedRight(long significand, int places) {
            if (places > 62) {
                return significand == 0 ? 0 : 1;
            }
            long kept = significand >>> places;
            return kept << places == significand ? kept : kept | 1;
        }

        /** Of two that aren't NaN. */
        static long times(Kind kind, long x, long y) {
            boolean negative = kind.isNegative(x) != kind.isNegative(y);
            boolean zero = kind.magnitude(x) == 0 || kind.magnitude(y) == 0;
            if (kind.isInfinite(x) || kind.isInfinite(y)) {
                return zero ? kind.nan : kind.signed(negative, kind.infinite);
            }
            if (zero) {
                return kind.signed(negative, 0);
            }
            long first = kind.significand(x);
            long second = kind.significand(y);
            int firstShift = Long.numberOfLeadingZeros(first) - FREE_BITS;
            int secondShift = Long.numberOfLeadingZeros(second) - FREE_BITS;
            int exponent = kind.exponent(x) - firstShift + kind.exponent(y) - secondShift;
            long product = productTop(first << firstShift, second << secondShift);
            return kind.rounded(negative, product, exponent + PRODUCT_SHIFT);
        }

        /**
         * The product of two of 53 bits without its last 44;
         * the lowest bit is set if any of these was.
         */
        private static long productTop(long first, long second) {
            long part = (1L << 27) - 1;
            long firstTop = first >>> 27;
            long firstLow = first & part;
            long secondTop = second >>> 27;
            long secondLow = second & part;
            long low = firstLow * secondLow;
            long middle = firstTop * secondLow + firstLow * secondTop + (low >>> 27);
            long top = (firstTop * secondTop << 10) + (middle >>> 17);
            boolean exact = (low & part) == 0 && (middle & ((1L << 17) - 1)) == 0;
            return exact ? top : top | 1;
        }

        /** Of two that aren't NaN. */
        static long over(Kind kind, long x, long y) {
            boolean negative = kind.isNegative(x) != kind.isNegative(y);
            if (kind.isInfinite(x)) {
                return kind.isInfinite(y) ? kind.nan : kind.signed(negative, kind.infinite);
            }
            if (kind.isInfinite(y)) {
                return kind.signed(negative, 0);
            }
            long first = kind.significand(x);
            long second = kind.significand(y);
            if (second == 0) {
                return first == 0 ? kind.nan : kind.signed(negative, kind.infinite);
            }
            if (first == 0) {
                return kind.signed(negative, 0);
            }
            int firstShift = Long.numberOfLeadingZeros(first) - FREE_BITS;
            int secondShift = Long.numberOfLeadingZeros(second) - FREE_BITS;
            int exponent = kind.exponent(x) - firstShift - (kind.exponent(y) - secondShift);
            long quotient = quotientOf(first << firstShift, second << secondShift);
            return kind.rounded(negative, quotient, exponent - QUOTIENT_ROUNDS * REST_SHIFT);
        }

        /**
         * The quotient of two of 53 bits times 2^60;
         * the lowest bit is set if the division does not come out even.
         */
        private static long quotientOf(long first, long second) {
            if (second == 0) {
                return 0;
            }
            long quotient = first / second;
            long rest = first % second;
            for (int round = 0; round < QUOTIENT_ROUNDS; round++) {
                long more = rest << REST_SHIFT;
                quotient = (quotient << REST_SHIFT) + more / second;
                rest = more % second;
            }
            return rest == 0 ? quotient : quotient | 1;
        }

        /** Of two that aren't NaN. */
        private static long remainder(Kind kind, long x, long y) {
            long divisor = kind.significand(y);
            if (kind.isInfinite(x) || divisor == 0) {
                return kind.nan;
            }
            if (kind.isInfinite(y) || kind.magnitude(x) < kind.magnitude(y)) {
                return x;
            }
            long rest = kind.significand(x) % divisor;
            int places = kind.exponent(x) - kind.exponent(y);
            for (int left = places; left > 0; left -= REST_SHIFT) {
                rest = (rest << Math.min(left, REST_SHIFT)) % divisor;
            }
            return kind.rounded(kind.isNegative(x), rest, kind.exponent(y));
        }
    }

    /** The three ways to add up a row. */
    private static final class Sums {
        /** Halving 500 numbers comes to one number after nine levels. */
        private static final int DEEPEST = 40;

        static long plain(Kind kind, long[] numbers) {
            long sum = 0;
            for (int place = 0; place < numbers.length; place++) {
                sum = Reckoning.plus(kind, sum, numbers[place]);
            }
            return sum;
        }

        static long carried(Kind kind, long[] numbers) {
            long sum = 0;
            long carry = 0;
            for (int place = 0; place < numbers.length; place++) {
                long added = Reckoning.minus(kind, numbers[place], carry);
                long next = Reckoning.plus(kind, sum, added);
                carry = Reckoning.minus(kind, Reckoning.minus(kind, next, sum), added);
                sum = next;
            }
            return sum;
        }

        static long halved(Kind kind, long[] numbers) {
            return ofPart(kind, numbers, 0, numbers.length, 0);
        }

        private static long ofPart(Kind kind, long[] numbers, int from, int count, int depth) {
            if (count < 1 || from < 0 || from >= numbers.length || depth > DEEPEST) {
                return 0;
            }
            if (count == 1) {
                return numbers[from];
            }
            int half = count / 2;
            long first = ofPart(kind, numbers, from, half, depth + 1);
            long others = ofPart(kind, numbers, from + half, count - half, depth + 1);
            return Reckoning.plus(kind, first, others);
        }
    }

    /** Sorts rows by merging, which leaves those alike as they stood. */
    private static final class Sorter {
        private static final int UPWARD = 0;
        private static final int DOWNWARD = 1;

        private final long[] before;
        private final long[] merged;

        Sorter() {
            before = new long[LONGEST_ROW];
            merged = new long[LONGEST_ROW];
        }

        /** In how many places other bits stand than before. */
        int reorder(Row row, int way) {
            long[] numbers = row.numbers;
            int length = numbers.length;
            System.arraycopy(numbers, 0, before, 0, length);
            for (int width = 1; width < length; width *= 2) {
                for (int from = 0; from < length; from += 2 * width) {
                    int middle = Math.min(from + width, length);
                    int to = Math.min(from + 2 * width, length);
                    merge(row, way, from, middle, to);
                }
                System.arraycopy(merged, 0, numbers, 0, length);
            }
            return changed(numbers);
        }

        private void merge(Row row, int way, int from, int middle, int to) {
            long[] numbers = row.numbers;
            int left = from;
            int right = middle;
            for (int at = from; at < to; at++) {
                boolean takesLeft = right >= to || left < middle
                        && rank(row.kind, way, numbers[left]) <= rank(row.kind, way, numbers[right]);
                if (takesLeft) {
                    merged[at] = numbers[left];
                    left++;
                } else {
                    merged[at] = numbers[right];
                    right++;
                }
            }
        }

        private static long rank(Kind kind, int way, long bits) {
            if (way == UPWARD) {
                return kind.totalRank(bits);
            }
            return way == DOWNWARD ? -kind.totalRank(bits) : kind.magnitude(bits);
        }

        private int changed(long[] numbers) {
            int count = 0;
            for (int place = 0; place < numbers.length; place++) {
                if (numbers[place] != before[place]) {
                    count++;
                }
            }
            return count;
        }
    }

    /** The two bounds of a pair, whether they make an interval or not. */
    private static final class Interval {
        static final int PLUS = 0;
        static final int MINUS = 1;
        static final int TIMES = 2;
        static final int OVER = 3;
        static final int AROUND_BOTH = 4;
        static final int IN_BOTH = 5;
        static final int LAST_ACT = IN_BOTH;

        final Kind kind;
        final long low;
        final long high;

        Interval(Kind kind, long low, long high) {
            this.kind = kind;
            this.low = low;
            this.high = high;
        }

        boolean stands() {
            return kind.atMost(low, high);
        }

        boolean hasZero() {
            return kind.atMost(low, 0) && kind.atMost(0, high);
        }

        Interval everything() {
            return new Interval(kind, kind.signed(true, kind.infinite), kind.infinite);
        }

        Interval nothing() {
            return new Interval(kind, kind.nan, kind.nan);
        }

        Interval acted(int what, Interval other) {
            switch (what) {
                case PLUS:
                    return outward(Reckoning.plus(kind, low, other.low),
                            Reckoning.plus(kind, high, other.high));
                case MINUS:
                    return outward(Reckoning.minus(kind, low, other.high),
                            Reckoning.minus(kind, high, other.low));
                case TIMES:
                    return ofFour(product(low, other.low), product(low, other.high),
                            product(high, other.low), product(high, other.high));
                case OVER:
                    return ofFour(quotient(low, other.low), quotient(low, other.high),
                            quotient(high, other.low), quotient(high, other.high));
                case AROUND_BOTH:
                    return new Interval(kind, kind.lesser(low, other.low),
                            kind.greater(high, other.high));
                default:
                    return new Interval(kind, kind.greater(low, other.low),
                            kind.lesser(high, other.high));
            }
        }

        private long product(long x, long y) {
            return zeroIfNan(Reckoning.times(kind, x, y));
        }

        private long quotient(long x, long y) {
            return zeroIfNan(Reckoning.over(kind, x, y));
        }

        private long zeroIfNan(long bits) {
            return kind.isNan(bits) ? 0 : bits;
        }

        private Interval ofFour(long first, long second, long third, long fourth) {
            return outward(
                    kind.lesser(kind.lesser(first, second), kind.lesser(third, fourth)),
                    kind.greater(kind.greater(first, second), kind.greater(third, fourth)));
        }

        private Interval outward(long lower, long upper) {
            long lowest = kind.isNan(lower) ? kind.signed(true, kind.infinite) : kind.stepped(lower, -1);
            long highest = kind.isNan(upper) ? kind.infinite : kind.stepped(upper, 1);
            return new Interval(kind, lowest, highest);
        }
    }
}
