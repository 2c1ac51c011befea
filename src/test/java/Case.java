import java.math.BigInteger;

/** What the tests of the document's sentences share: serials, objects in a known state, and what is due of them. */
abstract class Case {
    static final int NONE = -1, BAD = -2, PRESENT = -3, ABSENT = -4, CLASH = -5, FULL = -6, WRONG = -7;
    static final long SERIALS = 1L << 40, LAST_SERIAL = SERIALS - 1;
    /** Found by search: none of its 256 candidates is a prime, but the next one would be. */
    static final long WITHOUT_PRIME = 920246019197L;
    /** 5 and 519 are good serials: those behind them are 5 and 519 for who looks at too few of their bits. */
    static final long[] NO_SERIALS = {
        -1, SERIALS, Long.MIN_VALUE, Long.MAX_VALUE, WITHOUT_PRIME,
        SERIALS + 5, 5 - SERIALS, Long.MIN_VALUE + 5, SERIALS + 519, 519 - SERIALS, Long.MIN_VALUE + 519
    };
    static final int[] NEVER_EPOCHS = {-1, 17, Integer.MAX_VALUE, Integer.MIN_VALUE, 1 << 16, -16};
    /** 519 and 802 have one prime. */
    static final long TWIN = 519, OTHER_TWIN = 802;
    /** Found by search: the serials of the ten greatest primes below 2^31, the greatest first. */
    static final long[] OF_GREATEST_PRIMES = {
        20570280, 59902071, 33562082, 27031383, 19563789, 90061971, 50739161, 55046508, 4409268, 18176604
    };
    /** Found by search: the serials of the ten least primes above 2^30, the least first. */
    static final long[] OF_LEAST_PRIMES = {
        14550285, 45251443, 56809228, 21904418, 47332704, 59609718, 48773235, 79814644, 8942306, 23794218
    };
    static final BigInteger ZERO = BigInteger.ZERO, ONE = BigInteger.ONE, THREE = BigInteger.valueOf(3);
    static final BigInteger N = Model.join(-7777777777777777776L, 1234567890123456789L);
    static final BigInteger LEAST_N = ONE.shiftLeft(100).add(ONE);
    static final BigInteger GREATEST_N = ONE.shiftLeft(128).subtract(THREE);
    static final Dues DUES = new Dues();

    static void sentence(String words, Runnable test) {
        DUES.sentence(words, test);
    }

    static void due(String call, long got, long want) {
        DUES.due(call, got, want);
    }

    static void due(String call, boolean got, boolean want) {
        DUES.due(call, got, want);
    }

    static boolean give(PartsAccumulator x, BigInteger n) {
        return x.modulus(Model.word(n, true), Model.word(n, false));
    }

    static PartsAccumulator withModulus(BigInteger n) {
        PartsAccumulator x = new PartsAccumulator();
        due("modulus(" + n + ")", give(x, n), true);
        return x;
    }

    static PartsAccumulator withPending(long... serials) {
        PartsAccumulator x = withModulus(N);
        addAll(x, serials);
        return x;
    }

    /** An object in whose epoch 1 the serials are present, and still pending. */
    static PartsAccumulator withPresent(long... serials) {
        PartsAccumulator x = withPending(serials);
        due("close()", x.close(), 1);
        return x;
    }

    /** Adds serials to an object without pending ones. */
    static void addAll(PartsAccumulator x, long... serials) {
        for (int i = 0; i < serials.length; i++) {
            due("add(" + serials[i] + ")", x.add(serials[i]), i + 1);
        }
    }

    /** Removes serials, all that are pending, in the order in which they are told. */
    static void removeAll(PartsAccumulator x, long... serials) {
        for (int i = 0; i < serials.length; i++) {
            due("remove(" + serials[i] + ")", x.remove(serials[i]), serials.length - 1 - i);
        }
    }

    static void closeUntil(PartsAccumulator x, int epoch) {
        for (int e = x.size(2) + 1; e <= epoch; e++) {
            due("close()", x.close(), e);
        }
    }

    /** The serials from .. from + count - 1. */
    static long[] range(long from, int count) {
        long[] all = new long[count];
        for (int i = 0; i < count; i++) {
            all[i] = from + i;
        }
        return all;
    }

    static BigInteger primeOf(long serial) {
        return BigInteger.valueOf(Model.primeOf(serial));
    }

    static BigInteger product(long... serials) {
        BigInteger all = ONE;
        for (long s : serials) {
            all = all.multiply(primeOf(s));
        }
        return all;
    }

    static BigInteger powerOfThree(BigInteger exponent) {
        return THREE.modPow(exponent, N);
    }

    /** The accumulator of an epoch in which the serials are present. */
    static BigInteger accumulated(long... serials) {
        return powerOfThree(product(serials));
    }

    static void hold(PartsAccumulator x, BigInteger number, int factor, boolean want) {
        String call = "hold(" + number + ", " + factor + ")";
        due(call, x.hold(Model.word(number, true), Model.word(number, false), factor), want);
    }

    static void dueHand(String when, PartsAccumulator x, BigInteger number, int factor) {
        due("hand(true) " + when, x.hand(true), Model.word(number, true));
        due("hand(false) " + when, x.hand(false), Model.word(number, false));
        due("factor() " + when, x.factor(), factor);
    }

    static void dueAccumulator(PartsAccumulator x, int epoch, BigInteger number) {
        due("accumulator(" + epoch + ", true)", x.accumulator(epoch, true), Model.word(number, true));
        due("accumulator(" + epoch + ", false)", x.accumulator(epoch, false), Model.word(number, false));
    }

    static void dueWitness(PartsAccumulator x, long serial, BigInteger number) {
        due("witness(" + serial + ", true)", x.witness(serial, true), Model.word(number, true));
        due("witness(" + serial + ", false)", x.witness(serial, false), Model.word(number, false));
    }

    static void dueSizes(PartsAccumulator x, int present, int pending, int now) {
        due("size(0)", x.size(0), present);
        due("size(1)", x.size(1), pending);
        due("size(2)", x.size(2), now);
    }

    /** What exclude makes of a serial while others are present now, modulo N. */
    static void dueExcluded(PartsAccumulator x, long serial, long... present) {
        BigInteger p = primeOf(serial), all = product(present), a = all.modInverse(p);
        BigInteger c = a.multiply(all).subtract(ONE).divide(p);
        due("exclude(" + serial + ")", x.exclude(serial), a.intValueExact());
        dueHand("after exclude(" + serial + ")", x, powerOfThree(c).modInverse(N), a.intValueExact());
        due("checkExclude(" + serial + ", NOW)", x.checkExclude(serial, x.size(2)), 1);
    }
}
