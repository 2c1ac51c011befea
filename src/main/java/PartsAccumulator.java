import java.util.Arrays;

/**
 * A register of parts by their serial numbers, which publishes one number, the accumulator, for all
 * parts that are present in an epoch. The document DOC.md says what each call promises.
 */
public final class PartsAccumulator {
    public static final int NONE = -1, BAD = -2, PRESENT = -3, ABSENT = -4, CLASH = -5, FULL = -6, WRONG = -7;

    private static final int LAST_EPOCH = 16;

    private final SerialPrimes serialPrimes;
    private final Ring ring;
    private final Roster pending;
    private final Epoch[] epochs;
    private final long[] held;
    private final long[] scratch;
    private final long[] otherScratch;
    private final Natural exponent;
    private boolean hasModulus;
    private int now;
    private int heldFactor;

    public PartsAccumulator() {
        serialPrimes = new SerialPrimes();
        ring = new Ring();
        pending = new Roster();
        epochs = new Epoch[LAST_EPOCH + 1];
        for (int e = 0; e <= LAST_EPOCH; e++) {
            epochs[e] = new Epoch();
        }
        held = new long[Ring.LIMBS];
        scratch = new long[Ring.LIMBS];
        otherScratch = new long[Ring.LIMBS];
        exponent = new Natural();
    }

    public boolean modulus(long upper, long lower) {
        if (hasModulus || !Ring.accepts(upper, lower)) {
            return false;
        }
        ring.begin(upper, lower);
        publish(epochs[0]);
        hasModulus = true;
        return true;
    }

    public int prime(long serial) {
        return serialPrimes.primeOf(serial);
    }

    public int add(long serial) {
        int p = primeOrRefusal(serial);
        if (p < 0) {
            return p;
        }
        if (pending.has(serial)) {
            return PRESENT;
        }
        if (pending.hasPrime(p)) {
            return CLASH;
        }
        if (pending.count >= Roster.MOST) {
            return FULL;
        }
        pending.insert(serial, p);
        return pending.count;
    }

    public int remove(long serial) {
        int p = primeOrRefusal(serial);
        if (p < 0) {
            return p;
        }
        int place = pending.placeOf(serial);
        if (place < 0) {
            return ABSENT;
        }
        pending.delete(place);
        return pending.count;
    }

    public int close() {
        if (!hasModulus) {
            return NONE;
        }
        if (now >= LAST_EPOCH) {
            return FULL;
        }
        now++;
        epochs[now].roster.become(pending);
        publish(epochs[now]);
        return now;
    }

    public int size(int k) {
        if (!hasModulus) {
            return NONE;
        }
        switch (k) {
            case 0:
                return epochs[now].roster.count;
            case 1:
                return pending.count;
            case 2:
                return now;
            default:
                return BAD;
        }
    }

    public int state(long serial) {
        int p = primeOrRefusal(serial);
        if (p < 0) {
            return p;
        }
        return (epochs[now].roster.has(serial) ? 1 : 0) + (pending.has(serial) ? 2 : 0);
    }

    public long accumulator(int epoch, boolean upper) {
        if (!hasModulus || !isEpoch(epoch)) {
            return 0;
        }
        return Ring.word(epochs[epoch].published, upper);
    }

    public int note(int epoch, int what, int i) {
        if (!hasModulus) {
            return NONE;
        }
        if (!isEpoch(epoch) || epoch == 0) {
            return BAD;
        }
        Roster before = epochs[epoch - 1].roster;
        Roster after = epochs[epoch].roster;
        switch (what) {
            case 0:
                return after.countOutside(before);
            case 1:
                return before.countOutside(after);
            case 2:
                return after.primeOutside(before, i);
            case 3:
                return before.primeOutside(after, i);
            default:
                return BAD;
        }
    }

    public long witness(long serial, boolean upper) {
        if (!hasModulus || !epochs[now].roster.has(serial)) {
            return 0;
        }
        computeIssued(serial, scratch);
        return Ring.word(scratch, upper);
    }

    public int issue(long serial) {
        int p = primeOrRefusal(serial);
        if (p < 0) {
            return p;
        }
        if (!epochs[now].roster.has(serial)) {
            return ABSENT;
        }
        computeIssued(serial, held);
        heldFactor = 0;
        return epochs[now].roster.count - 1;
    }

    public boolean hold(long upper, long lower, int factor) {
        if (!hasModulus || factor < 0 || !ring.isBelowModulus(upper, lower)) {
            return false;
        }
        Ring.split(upper, lower, held);
        heldFactor = factor;
        return true;
    }

    public long hand(boolean upper) {
        return hasModulus ? Ring.word(held, upper) : 0;
    }

    public int factor() {
        return hasModulus ? heldFactor : NONE;
    }

    public int check(long serial, int epoch) {
        int p = primeOrRefusal(serial, epoch);
        if (p < 0) {
            return p;
        }
        return holdsWitness(p, epoch) ? 1 : 0;
    }

    public int advance(long serial, int epoch) {
        int p = primeOrRefusal(serial, epoch);
        if (p < 0) {
            return p;
        }
        if (!isPresentSince(serial, epoch)) {
            return ABSENT;
        }
        if (!holdsWitness(p, epoch)) {
            return WRONG;
        }
        for (int e = epoch + 1; e <= now; e++) {
            takeInAdded(e);
            takeOutRemoved(e, p);
        }
        return now - epoch;
    }

    public int exclude(long serial) {
        int p = primeOrRefusal(serial);
        if (p < 0) {
            return p;
        }
        Roster present = epochs[now].roster;
        if (present.has(serial)) {
            return PRESENT;
        }
        if (present.hasPrime(p)) {
            return CLASH;
        }
        exponent.become(1);
        present.multiplyInto(exponent);
        heldFactor = inverseThenQuotient(p);
        ring.power(ring.third, exponent, held);
        return heldFactor;
    }

    public int checkExclude(long serial, int epoch) {
        int p = primeOrRefusal(serial, epoch);
        if (p < 0) {
            return p;
        }
        exponent.become(heldFactor);
        ring.power(epochs[epoch].published, exponent, scratch);
        exponent.become(p);
        ring.power(held, exponent, otherScratch);
        ring.multiply(scratch, otherScratch, scratch);
        return Ring.same(scratch, ring.three) ? 1 : 0;
    }

    /** The prime of a serial, always above 0, or the answer with which a call refuses the serial. */
    private int primeOrRefusal(long serial) {
        return hasModulus ? serialPrimes.primeOf(serial) : NONE;
    }

    private int primeOrRefusal(long serial, int epoch) {
        return hasModulus && !isEpoch(epoch) ? BAD : primeOrRefusal(serial);
    }

    private boolean isEpoch(int epoch) {
        return epoch >= 0 && epoch <= now;
    }

    private boolean isPresentSince(long serial, int epoch) {
        for (int e = epoch; e <= now; e++) {
            if (!epochs[e].roster.has(serial)) {
                return false;
            }
        }
        return true;
    }

    private boolean holdsWitness(int p, int epoch) {
        exponent.become(p);
        ring.power(held, exponent, scratch);
        return Ring.same(scratch, epochs[epoch].published);
    }

    private void publish(Epoch epoch) {
        exponent.become(1);
        epoch.roster.multiplyInto(exponent);
        ring.power(ring.three, exponent, epoch.published);
        ring.power(ring.third, exponent, epoch.inverse);
    }

    private void computeIssued(long serial, long[] out) {
        exponent.become(1);
        epochs[now].roster.multiplyOthersInto(serial, exponent);
        ring.power(ring.three, exponent, out);
    }

    private void takeInAdded(int epoch) {
        exponent.become(1);
        epochs[epoch].roster.multiplyOutsideInto(epochs[epoch - 1].roster, exponent);
        ring.power(held, exponent, held);
    }

    private void takeOutRemoved(int epoch, int p) {
        exponent.become(1);
        epochs[epoch - 1].roster.multiplyOutsideInto(epochs[epoch].roster, exponent);
        int b = inverseThenQuotient(p);
        ring.power(epochs[epoch].inverse, exponent, scratch);
        exponent.become(b);
        ring.power(held, exponent, held);
        ring.multiply(held, scratch, held);
    }

    /**
     * With x in the exponent, no multiple of p: answers the least b above 0 with b x = 1 modulo p, and
     * leaves (b x - 1) / p in the exponent. As b x leaves 1 over p, the quotient needs no subtraction.
     */
    private int inverseThenQuotient(int p) {
        int b = SerialPrimes.inverse(exponent.remainder(p), p);
        exponent.multiply(b);
        exponent.divide(p);
        return b;
    }

    /** What is kept of an epoch: who is present, its accumulator, and the inverse of that. */
    private static final class Epoch {
        final Roster roster = new Roster();
        final long[] published = new long[Ring.LIMBS];
        final long[] inverse = new long[Ring.LIMBS];
    }

    /** A set of serials with their primes, by rising serials, as the notes of an epoch tell them. */
    private static final class Roster {
        static final int MOST = 10;

        final long[] serials = new long[MOST];
        final int[] primes = new int[MOST];
        int count;

        int placeOf(long serial) {
            for (int i = 0; i < count; i++) {
                if (serials[i] == serial) {
                    return i;
                }
            }
            return -1;
        }

        boolean has(long serial) {
            return placeOf(serial) >= 0;
        }

        boolean hasPrime(int p) {
            for (int i = 0; i < count; i++) {
                if (primes[i] == p) {
                    return true;
                }
            }
            return false;
        }

        void insert(long serial, int p) {
            if (count >= MOST) {
                return;
            }
            int place = count;
            for (; place > 0 && serials[place - 1] > serial; place--) {
                serials[place] = serials[place - 1];
                primes[place] = primes[place - 1];
            }
            serials[place] = serial;
            primes[place] = p;
            count++;
        }

        void delete(int place) {
            for (int i = place + 1; i < count; i++) {
                serials[i - 1] = serials[i];
                primes[i - 1] = primes[i];
            }
            count--;
        }

        void become(Roster other) {
            System.arraycopy(other.serials, 0, serials, 0, MOST);
            System.arraycopy(other.primes, 0, primes, 0, MOST);
            count = other.count;
        }

        int countOutside(Roster other) {
            int found = 0;
            for (int i = 0; i < count; i++) {
                if (!other.has(serials[i])) {
                    found++;
                }
            }
            return found;
        }

        int primeOutside(Roster other, int wanted) {
            int found = 0;
            for (int i = 0; i < count; i++) {
                if (!other.has(serials[i])) {
                    if (found == wanted) {
                        return primes[i];
                    }
                    found++;
                }
            }
            return BAD;
        }

        void multiplyInto(Natural product) {
            for (int i = 0; i < count; i++) {
                product.multiply(primes[i]);
            }
        }

        void multiplyOthersInto(long serial, Natural product) {
            for (int i = 0; i < count; i++) {
                if (serials[i] != serial) {
                    product.multiply(primes[i]);
                }
            }
        }

        void multiplyOutsideInto(Roster other, Natural product) {
            for (int i = 0; i < count; i++) {
                if (!other.has(serials[i])) {
                    product.multiply(primes[i]);
                }
            }
        }
    }

    /** Finds the primes of serials; all of them lie between 2^30 and 2^31. */
    private static final class SerialPrimes {
        static final long SERIALS = 1L << 40;
        static final int COUNTERS = 256;
        static final int ROUNDS = 64;
        static final int A = 0x6a09e667, B = 0xbb67ae85, C = 0x3c6ef372, D = 0xa54ff53a;
        static final int E = 0x510e527f, F = 0x9b05688c, G = 0x1f83d9ab, H = 0x5be0cd19;
        static final int[] K = {
            0x428a2f98, 0x71374491, 0xb5c0fbcf, 0xe9b5dba5, 0x3956c25b, 0x59f111f1, 0x923f82a4, 0xab1c5ed5,
            0xd807aa98, 0x12835b01, 0x243185be, 0x550c7dc3, 0x72be5d74, 0x80deb1fe, 0x9bdc06a7, 0xc19bf174,
            0xe49b69c1, 0xefbe4786, 0x0fc19dc6, 0x240ca1cc, 0x2de92c6f, 0x4a7484aa, 0x5cb0a9dc, 0x76f988da,
            0x983e5152, 0xa831c66d, 0xb00327c8, 0xbf597fc7, 0xc6e00bf3, 0xd5a79147, 0x06ca6351, 0x14292967,
            0x27b70a85, 0x2e1b2138, 0x4d2c6dfc, 0x53380d13, 0x650a7354, 0x766a0abb, 0x81c2c92e, 0x92722c85,
            0xa2bfe8a1, 0xa81a664b, 0xc24b8b70, 0xc76c51a3, 0xd192e819, 0xd6990624, 0xf40e3585, 0x106aa070,
            0x19a4c116, 0x1e376c08, 0x2748774c, 0x34b0bcb5, 0x391c0cb3, 0x4ed8aa4a, 0x5b9cca4f, 0x682e6ff3,
            0x748f82ee, 0x78a5636f, 0x84c87814, 0x8cc70208, 0x90befffa, 0xa4506ceb, 0xbef9a3f7, 0xc67178f2
        };

        final int[] w = new int[ROUNDS];

        /** BAD when the serial is none or has no prime. */
        int primeOf(long serial) {
            if (serial < 0 || serial >= SERIALS) {
                return BAD;
            }
            for (int c = 0; c < COUNTERS; c++) {
                int x = (hash(serial, c) & 0x7fffffff) | 0x40000001;
                if (isPrime(x)) {
                    return x;
                }
            }
            return BAD;
        }

        private int hash(long serial, int counter) {
            fillSchedule(serial, counter);
            int a = A, b = B, c = C, d = D, e = E, f = F, g = G, h = H;
            for (int i = 0; i < ROUNDS; i++) {
                int t = h + (turn(e, 6) ^ turn(e, 11) ^ turn(e, 25)) + ((e & f) ^ (~e & g)) + K[i] + w[i];
                int u = (turn(a, 2) ^ turn(a, 13) ^ turn(a, 22)) + ((a & b) ^ (a & c) ^ (b & c));
                h = g;
                g = f;
                f = e;
                e = d + t;
                d = c;
                c = b;
                b = a;
                a = t + u;
            }
            return a + A;
        }

        private void fillSchedule(long serial, int counter) {
            Arrays.fill(w, 0);
            w[0] = (int) (serial >>> 32);
            w[1] = (int) serial;
            w[3] = counter;
            w[4] = 1 << 31;
            w[15] = 128;
            for (int i = 16; i < ROUNDS; i++) {
                int f = turn(w[i - 2], 17) ^ turn(w[i - 2], 19) ^ (w[i - 2] >>> 10);
                int g = turn(w[i - 15], 7) ^ turn(w[i - 15], 18) ^ (w[i - 15] >>> 3);
                w[i] = f + w[i - 7] + g + w[i - 16];
            }
        }

        private static int turn(int x, int places) {
            return (x >>> places) | (x << (32 - places));
        }

        /** For odd n above 61: no composite below 4759123141 passes for the bases 2, 7 and 61 together. */
        private static boolean isPrime(int n) {
            return n > 61 && passes(n, 2) && passes(n, 7) && passes(n, 61);
        }

        private static boolean passes(int n, int base) {
            int halvings = 0;
            int odd = n - 1;
            for (; halvings < 31 && (odd & 1) == 0; halvings++) {
                odd >>>= 1;
            }
            long x = power(base, odd, n);
            if (x == 1 || x == n - 1) {
                return true;
            }
            for (int i = 1; i < halvings; i++) {
                x = x * x % n;
                if (x == n - 1) {
                    return true;
                }
            }
            return false;
        }

        /** By Fermat's theorem: x ^ (p - 2) is the inverse of x modulo a prime p that does not divide x. */
        static int inverse(int x, int p) {
            return p < 2 ? 0 : (int) power(x, p - 2, p);
        }

        private static long power(long base, int exponent, int n) {
            long result = 1;
            for (int bit = 31; bit >= 0; bit--) {
                result = result * result % n;
                if (((exponent >>> bit) & 1) != 0) {
                    result = result * base % n;
                }
            }
            return result;
        }
    }

    /** A number not below 0 for exponents: at most ten primes and one factor more, each below 2^31. */
    private static final class Natural {
        static final int LIMBS = 11;
        static final int BITS = 32 * LIMBS;
        static final long MASK = 0xffffffffL;

        final long[] limbs = new long[LIMBS];

        void become(int value) {
            Arrays.fill(limbs, 0);
            limbs[0] = value;
        }

        void multiply(int factor) {
            long carry = 0;
            for (int i = 0; i < LIMBS; i++) {
                long sum = limbs[i] * factor + carry;
                limbs[i] = sum & MASK;
                carry = sum >>> 32;
            }
        }

        int remainder(int divisor) {
            if (divisor <= 0) {
                return 0;
            }
            long rest = 0;
            for (int i = LIMBS - 1; i >= 0; i--) {
                rest = ((rest << 32) | limbs[i]) % divisor;
            }
            return (int) rest;
        }

        void divide(int divisor) {
            if (divisor <= 0) {
                return;
            }
            long rest = 0;
            for (int i = LIMBS - 1; i >= 0; i--) {
                long part = (rest << 32) | limbs[i];
                limbs[i] = part / divisor;
                rest = part % divisor;
            }
        }

        boolean bit(int place) {
            return ((limbs[place >>> 5] >>> (place & 31)) & 1) != 0;
        }

        /** The place of the highest bit that is 1; -1 of the number 0. */
        int highestBit() {
            for (int place = BITS - 1; place >= 0; place--) {
                if (bit(place)) {
                    return place;
                }
            }
            return -1;
        }
    }

    /**
     * The numbers below the modulus, as rows of four limbs of 32 bits, the lowest first. Products are
     * taken by Montgomery's method, which needs no division: a number x is then held as x times 2^128.
     */
    private static final class Ring {
        static final int LIMBS = 4;
        static final long MASK = 0xffffffffL;

        final long[] three = {3, 0, 0, 0};
        /** The inverse of 3: all that is ever inverted is a power of 3, so this is the one that is needed. */
        final long[] third = new long[LIMBS];
        private final long[] unit = {1, 0, 0, 0};
        private final long[] modulusLimbs = new long[LIMBS];
        private final long[] montgomeryOne = new long[LIMBS];
        private final long[] montgomerySquare = new long[LIMBS];
        private final long[] total = new long[LIMBS + 2];
        private final long[] reduced = new long[LIMBS];
        private final long[] base = new long[LIMBS];
        private final long[] result = new long[LIMBS];
        private long negatedInverse;

        static boolean accepts(long upper, long lower) {
            boolean odd = (lower & 1) != 0;
            boolean large = (upper >>> 36) != 0;
            // 2^32 is 1 modulo 3, so the sum of the limbs leaves over 3 what the number leaves.
            long sum = (upper >>> 32) + (upper & MASK) + (lower >>> 32) + (lower & MASK);
            return odd && large && sum % 3 != 0;
        }

        static void split(long upper, long lower, long[] out) {
            out[0] = lower & MASK;
            out[1] = lower >>> 32;
            out[2] = upper & MASK;
            out[3] = upper >>> 32;
        }

        static long word(long[] x, boolean upper) {
            return upper ? (x[3] << 32) | x[2] : (x[1] << 32) | x[0];
        }

        static boolean same(long[] x, long[] y) {
            for (int i = 0; i < LIMBS; i++) {
                if (x[i] != y[i]) {
                    return false;
                }
            }
            return true;
        }

        /** To be called once, with a modulus that is accepted, before all that follows. */
        void begin(long upper, long lower) {
            split(upper, lower, modulusLimbs);
            findNegatedInverse();
            findThird();
            System.arraycopy(unit, 0, montgomeryOne, 0, LIMBS);
            shiftBy128(montgomeryOne);
            System.arraycopy(montgomeryOne, 0, montgomerySquare, 0, LIMBS);
            shiftBy128(montgomerySquare);
        }

        boolean isBelowModulus(long upper, long lower) {
            long ownUpper = word(modulusLimbs, true);
            long ownLower = word(modulusLimbs, false);
            return upper == ownUpper ? isBelow(lower, ownLower) : isBelow(upper, ownUpper);
        }

        /** Each of x and y may be the row for the answer. */
        void multiply(long[] x, long[] y, long[] out) {
            montgomery(x, montgomerySquare, base);
            montgomery(base, y, out);
        }

        /** The row x may be the row for the answer. */
        void power(long[] x, Natural exponent, long[] out) {
            montgomery(x, montgomerySquare, base);
            System.arraycopy(montgomeryOne, 0, result, 0, LIMBS);
            for (int place = exponent.highestBit(); place >= 0; place--) {
                montgomery(result, result, result);
                if (exponent.bit(place)) {
                    montgomery(result, base, result);
                }
            }
            montgomery(result, unit, out);
        }

        private static boolean isBelow(long x, long y) {
            return x + Long.MIN_VALUE < y + Long.MIN_VALUE;
        }

        /** Newton's steps: x is right in its lowest 3 bits at first, and each step doubles how many are. */
        private void findNegatedInverse() {
            long n = modulusLimbs[0];
            long x = n;
            for (int i = 0; i < 4; i++) {
                x = (x * (2 - n * x)) & MASK;
            }
            negatedInverse = (-x) & MASK;
        }

        /** N is 3 k + 1 or 3 k + 2; the inverse of 3 is 2 k + 1 or k + 1, as 3 times that is 2 N + 1 or N + 1. */
        private void findThird() {
            long rest = 0;
            for (int i = LIMBS - 1; i >= 0; i--) {
                long part = (rest << 32) | modulusLimbs[i];
                third[i] = part / 3;
                rest = part % 3;
            }
            long times = rest == 1 ? 2 : 1;
            long carry = 1;
            for (int i = 0; i < LIMBS; i++) {
                long sum = third[i] * times + carry;
                third[i] = sum & MASK;
                carry = sum >>> 32;
            }
        }

        private void shiftBy128(long[] x) {
            for (int step = 0; step < 128; step++) {
                long carry = 0;
                for (int i = 0; i < LIMBS; i++) {
                    long sum = (x[i] << 1) | carry;
                    total[i] = sum & MASK;
                    carry = sum >>> 32;
                }
                total[LIMBS] = carry;
                reduceTotal(x);
            }
        }

        /** x y / 2^128 modulo N. Each of x and y may be the row for the answer: it is written last. */
        private void montgomery(long[] x, long[] y, long[] out) {
            Arrays.fill(total, 0);
            for (int i = 0; i < LIMBS; i++) {
                addProduct(x, y[i]);
                dropLowestLimb();
            }
            reduceTotal(out);
        }

        private void addProduct(long[] x, long limb) {
            long carry = 0;
            for (int j = 0; j < LIMBS; j++) {
                long sum = total[j] + x[j] * limb + carry;
                total[j] = sum & MASK;
                carry = sum >>> 32;
            }
            long sum = total[LIMBS] + carry;
            total[LIMBS] = sum & MASK;
            total[LIMBS + 1] = sum >>> 32;
        }

        /** Adds the multiple of N that makes the lowest limb 0, so that dropping the limb divides by 2^32. */
        private void dropLowestLimb() {
            long multiple = (total[0] * negatedInverse) & MASK;
            long carry = (total[0] + multiple * modulusLimbs[0]) >>> 32;
            for (int j = 1; j < LIMBS; j++) {
                long sum = total[j] + multiple * modulusLimbs[j] + carry;
                total[j - 1] = sum & MASK;
                carry = sum >>> 32;
            }
            long sum = total[LIMBS] + carry;
            total[LIMBS - 1] = sum & MASK;
            total[LIMBS] = total[LIMBS + 1] + (sum >>> 32);
        }

        /** The total is below 2 N here: N goes off at most once. */
        private void reduceTotal(long[] out) {
            long borrow = 0;
            for (int i = 0; i < LIMBS; i++) {
                long difference = total[i] - modulusLimbs[i] - borrow;
                reduced[i] = difference & MASK;
                borrow = difference >>> 63;
            }
            System.arraycopy(borrow > total[LIMBS] ? total : reduced, 0, out, 0, LIMBS);
        }
    }
}
