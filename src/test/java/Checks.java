import java.util.Random;

/** Counts answers that are not due, and hands out numbers to try. */
final class Checks {
    static final long NAN = 0x7FF8000000000000L;
    static final long INF = 0x7FF0000000000000L;
    static final long MINUS = 0x8000000000000000L;
    static final long NAN_S = 0x7FC00000L;
    static final long INF_S = 0x7F800000L;
    static final long MINUS_S = 0x80000000L;

    private static final int MOST_PRINTED = 40;
    private static int done = 0;
    private static int wrong = 0;
    private static String sentence = "";
    private static int sentences = 0;
    private static int doneBefore = 0;
    private static int wrongBefore = 0;

    private Checks() {
    }

    /**
     * The answers from here on are those that this sentence of the document asks for.
     * In square brackets stands which side of it is tried.
     */
    static void says(String words) {
        closeSentence();
        sentence = words;
        sentences++;
        doneBefore = done;
        wrongBefore = wrong;
    }

    private static void closeSentence() {
        if (sentence.isEmpty()) {
            return;
        }
        if (done == doneBefore) {
            wrong++;
            System.out.println("NOT TRIED: " + sentence);
        } else if (wrong != wrongBefore) {
            System.out.println("BROKEN: " + sentence);
        }
        sentence = "";
    }

    static void due(String what, long got, long want) {
        done++;
        if (got != want) {
            wrong++;
            if (wrong - wrongBefore <= MOST_PRINTED) {
                System.out.println(what + " answered " + got + ", due is " + want);
            }
        }
    }

    /** A refusal: its answer, and the status behind it. */
    static void refused(String what, ReckonBench bench, long got, long want, int why) {
        due(what, got, want);
        due(what + ", then status()", bench.status(), why);
        due(what + ", then status() again", bench.status(), why);
    }

    static void end() {
        closeSentence();
        if (sentences > 0) {
            System.out.println(sentences + " sentences");
        }
        System.out.println(done + " answers, " + wrong + " not as due");
        if (wrong != 0 || done == 0) {
            System.exit(1);
        }
    }

    static long d(double value) {
        return Double.isNaN(value) ? NAN : Double.doubleToRawLongBits(value);
    }

    static long s(float value) {
        return Float.isNaN(value) ? NAN_S : Float.floatToRawIntBits(value) & 0xFFFFFFFFL;
    }

    static double toDouble(long bits) {
        return Double.longBitsToDouble(bits);
    }

    static float toSingle(long bits) {
        return Float.intBitsToFloat((int) bits);
    }

    /** Row 0 of doubles, row 1 of singles: these numbers in both (the least and the greatest of each kind). */
    static ReckonBench with(double... numbers) {
        ReckonBench bench = new ReckonBench();
        bench.row(numbers.length, false);
        bench.row(numbers.length, true);
        for (int i = 0; i < numbers.length; i++) {
            bench.set(0, i, d(numbers[i]));
            bench.set(1, i, s(single(numbers[i])));
        }
        return bench;
    }

    static float single(double x) {
        float sign = Math.copySign(1f, (float) x);
        if (Math.abs(x) == Double.MIN_VALUE) {
            return sign * Float.MIN_VALUE;
        }
        return Math.abs(x) == Double.MAX_VALUE ? sign * Float.MAX_VALUE : (float) x;
    }

    /** Bits of a number worth trying; of NaN in its one form, unless wild ones are asked for. */
    static long someBits(Random random, boolean single, boolean wild) {
        long bits = single ? s(someSingle(random)) : d(someDouble(random));
        if (wild && random.nextInt(12) == 0) {
            return single ? random.nextLong() : random.nextLong() | INF;
        }
        return bits;
    }

    static double someDouble(Random random) {
        double sign = random.nextBoolean() ? 1 : -1;
        switch (random.nextInt(14)) {
            case 0: return sign * 0.0;
            case 1: return sign * Double.POSITIVE_INFINITY;
            case 2: return random.nextInt(3) == 0 ? Double.NaN : sign;
            case 3: return sign * toDouble(1 + random.nextInt(4));
            case 4: return sign * toDouble(0x0010000000000000L - 3 + random.nextInt(6));
            case 5: return sign * toDouble(INF - 1 - random.nextInt(4));
            case 6: return sign * random.nextInt(12);
            case 7: return sign * random.nextInt(24) / 4;
            case 8: return sign * (double) random.nextLong();
            case 9: return sign * Math.scalb((double) random.nextInt(64), random.nextInt(200) - 100);
            case 10: return sign * toDouble(random.nextLong() & 0x000FFFFFFFFFFFFFL);
            case 11: return sign * nearTie(random, 52);
            case 12: return sign * Math.scalb(1.0 + random.nextDouble(), random.nextInt(12) - 6);
            default: return toDouble(random.nextLong());
        }
    }

    static float someSingle(Random random) {
        float sign = random.nextBoolean() ? 1 : -1;
        switch (random.nextInt(14)) {
            case 0: return sign * 0.0f;
            case 1: return sign * Float.POSITIVE_INFINITY;
            case 2: return random.nextInt(3) == 0 ? Float.NaN : sign;
            case 3: return sign * toSingle(1 + random.nextInt(4));
            case 4: return sign * toSingle(0x00800000L - 3 + random.nextInt(6));
            case 5: return sign * toSingle(INF_S - 1 - random.nextInt(4));
            case 6: return sign * random.nextInt(12);
            case 7: return sign * random.nextInt(24) / 4;
            case 8: return sign * (float) random.nextLong();
            case 9: return sign * Math.scalb((float) random.nextInt(64), random.nextInt(80) - 40);
            case 10: return sign * toSingle(random.nextInt() & 0x007FFFFF);
            case 11: return sign * (float) nearTie(random, 23);
            case 12: return sign * Math.scalb(1.0f + random.nextFloat(), random.nextInt(12) - 6);
            default: return toSingle(random.nextInt());
        }
    }

    /** Powers of two with a last bit or two beside them. */
    private static double nearTie(Random random, int bits) {
        double value = Math.scalb(1.0, random.nextInt(5));
        value += Math.scalb((double) random.nextInt(4), -bits + random.nextInt(4));
        return Math.scalb(value, random.nextInt(60) - 30);
    }

    /** For the turning of doubles to singles: near the middle between two singles. */
    static double nearSingleTie(Random random) {
        float value = someSingle(random);
        double middle = ((double) value + (double) Math.nextUp(value)) / 2;
        if (value == Float.MAX_VALUE) {
            middle = Math.scalb(1.0, 128) - Math.scalb(1.0, 103);
        }
        switch (random.nextInt(3)) {
            case 0: return Math.nextUp(middle);
            case 1: return Math.nextDown(middle);
            default: return middle;
        }
    }
}
