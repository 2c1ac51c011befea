import java.math.BigInteger;
import java.nio.ByteBuffer;
import java.security.MessageDigest;
import java.security.NoSuchAlgorithmException;
import java.util.ArrayList;
import java.util.HashMap;
import java.util.List;
import java.util.Map;
import java.util.TreeMap;

/** The document said once more with the Java library, to compare the program's answers with. */
final class Model {
    static final int NONE = -1, BAD = -2, PRESENT = -3, ABSENT = -4, CLASH = -5, FULL = -6, WRONG = -7;
    static final BigInteger THREE = BigInteger.valueOf(3);
    private static final Map<Long, Integer> KNOWN_PRIMES = new HashMap<>();

    BigInteger n;
    final TreeMap<Long, Integer> pending = new TreeMap<>();
    final List<TreeMap<Long, Integer>> epochs = new ArrayList<>();
    BigInteger hand = BigInteger.ZERO;
    int factor;

    static BigInteger join(long upper, long lower) {
        return unsigned(upper).shiftLeft(64).or(unsigned(lower));
    }

    static BigInteger unsigned(long x) {
        return new BigInteger(Long.toUnsignedString(x));
    }

    static long word(BigInteger x, boolean upper) {
        return upper ? x.shiftRight(64).longValue() : x.longValue();
    }

    /** The counter at which the prime of a serial is found; 256 when it has none. */
    static int counterOf(long serial) {
        for (int c = 0; c < 256; c++) {
            if (isPrime(candidate(serial, c))) {
                return c;
            }
        }
        return 256;
    }

    static int primeOf(long serial) {
        if (serial < 0 || serial > (1L << 40) - 1) {
            return BAD;
        }
        return KNOWN_PRIMES.computeIfAbsent(serial, s -> {
            int c = counterOf(s);
            return c < 256 ? candidate(s, c) : BAD;
        });
    }

    private static int candidate(long serial, int c) {
        return (hash(serial, c) & 0x7fffffff) | 0x40000001;
    }

    /** The document's hash is the first word of SHA-256 over the serial and the counter, 64 bits each. */
    static int hash(long serial, int c) {
        try {
            byte[] text = ByteBuffer.allocate(16).putLong(serial).putLong(c).array();
            return ByteBuffer.wrap(MessageDigest.getInstance("SHA-256").digest(text)).getInt();
        } catch (NoSuchAlgorithmException e) {
            throw new IllegalStateException(e);
        }
    }

    private static boolean isPrime(int x) {
        for (int d = 3; (long) d * d <= x; d += 2) {
            if (x % d == 0) {
                return false;
            }
        }
        return true;
    }

    int now() {
        return epochs.size() - 1;
    }

    TreeMap<Long, Integer> presentNow() {
        return epochs.get(now());
    }

    static BigInteger product(TreeMap<Long, Integer> serials) {
        BigInteger all = BigInteger.ONE;
        for (int p : serials.values()) {
            all = all.multiply(BigInteger.valueOf(p));
        }
        return all;
    }

    static TreeMap<Long, Integer> minus(TreeMap<Long, Integer> some, TreeMap<Long, Integer> others) {
        TreeMap<Long, Integer> left = new TreeMap<>(some);
        left.keySet().removeAll(others.keySet());
        return left;
    }

    BigInteger accumulated(int epoch) {
        return THREE.modPow(product(epochs.get(epoch)), n);
    }

    BigInteger issued(long serial) {
        BigInteger p = BigInteger.valueOf(primeOf(serial));
        return THREE.modPow(product(presentNow()).divide(p), n);
    }

    boolean isEpoch(int epoch) {
        return epoch >= 0 && epoch <= now();
    }

    boolean modulus(long upper, long lower) {
        BigInteger given = join(upper, lower);
        if (n != null || !given.testBit(0) || given.mod(THREE).signum() == 0 || given.bitLength() < 101) {
            return false;
        }
        n = given;
        epochs.add(new TreeMap<>());
        return true;
    }

    int add(long serial) {
        int p = primeOf(serial);
        if (n == null || p < 0) {
            return n == null ? NONE : BAD;
        }
        if (pending.containsKey(serial)) {
            return PRESENT;
        }
        if (pending.containsValue(p)) {
            return CLASH;
        }
        if (pending.size() == 10) {
            return FULL;
        }
        pending.put(serial, p);
        return pending.size();
    }

    int remove(long serial) {
        if (n == null || primeOf(serial) < 0) {
            return n == null ? NONE : BAD;
        }
        return pending.remove(serial) == null ? ABSENT : pending.size();
    }

    int close() {
        if (n == null || now() == 16) {
            return n == null ? NONE : FULL;
        }
        epochs.add(new TreeMap<>(pending));
        return now();
    }

    int size(int k) {
        if (n == null) {
            return NONE;
        }
        return k == 0 ? presentNow().size() : k == 1 ? pending.size() : k == 2 ? now() : BAD;
    }

    int state(long serial) {
        if (n == null || primeOf(serial) < 0) {
            return n == null ? NONE : BAD;
        }
        return (presentNow().containsKey(serial) ? 1 : 0) + (pending.containsKey(serial) ? 2 : 0);
    }

    long accumulator(int epoch, boolean upper) {
        return n == null || !isEpoch(epoch) ? 0 : word(accumulated(epoch), upper);
    }

    int note(int epoch, int what, int i) {
        if (n == null) {
            return NONE;
        }
        if (epoch < 1 || !isEpoch(epoch) || what < 0 || what > 3) {
            return BAD;
        }
        TreeMap<Long, Integer> before = epochs.get(epoch - 1), after = epochs.get(epoch);
        List<Integer> told = new ArrayList<>((what % 2 == 0 ? minus(after, before) : minus(before, after)).values());
        if (what < 2) {
            return told.size();
        }
        return i < 0 || i >= told.size() ? BAD : told.get(i);
    }

    long witness(long serial, boolean upper) {
        return n == null || !presentNow().containsKey(serial) ? 0 : word(issued(serial), upper);
    }

    int issue(long serial) {
        if (n == null || primeOf(serial) < 0) {
            return n == null ? NONE : BAD;
        }
        if (!presentNow().containsKey(serial)) {
            return ABSENT;
        }
        hand = issued(serial);
        factor = 0;
        return presentNow().size() - 1;
    }

    boolean hold(long upper, long lower, int newFactor) {
        if (n == null || join(upper, lower).compareTo(n) >= 0 || newFactor < 0) {
            return false;
        }
        hand = join(upper, lower);
        factor = newFactor;
        return true;
    }

    long hand(boolean upper) {
        return n == null ? 0 : word(hand, upper);
    }

    int factor() {
        return n == null ? NONE : factor;
    }

    int check(long serial, int epoch) {
        if (n == null || primeOf(serial) < 0 || !isEpoch(epoch)) {
            return n == null ? NONE : BAD;
        }
        return hand.modPow(BigInteger.valueOf(primeOf(serial)), n).equals(accumulated(epoch)) ? 1 : 0;
    }

    int advance(long serial, int epoch) {
        if (n == null || primeOf(serial) < 0 || !isEpoch(epoch)) {
            return n == null ? NONE : BAD;
        }
        for (int e = epoch; e <= now(); e++) {
            if (!epochs.get(e).containsKey(serial)) {
                return ABSENT;
            }
        }
        if (check(serial, epoch) != 1) {
            return WRONG;
        }
        BigInteger p = BigInteger.valueOf(primeOf(serial));
        for (int e = epoch + 1; e <= now(); e++) {
            BigInteger q = product(minus(epochs.get(e), epochs.get(e - 1)));
            BigInteger y = product(minus(epochs.get(e - 1), epochs.get(e)));
            BigInteger b = y.modInverse(p);
            BigInteger c = b.multiply(y).subtract(BigInteger.ONE).divide(p);
            BigInteger moved = hand.modPow(q, n).modPow(b, n);
            hand = moved.multiply(accumulated(e).modPow(c, n).modInverse(n)).mod(n);
        }
        return now() - epoch;
    }

    int exclude(long serial) {
        if (n == null || primeOf(serial) < 0) {
            return n == null ? NONE : BAD;
        }
        if (presentNow().containsKey(serial)) {
            return PRESENT;
        }
        if (presentNow().containsValue(primeOf(serial))) {
            return CLASH;
        }
        BigInteger p = BigInteger.valueOf(primeOf(serial));
        BigInteger all = product(presentNow());
        BigInteger a = all.modInverse(p);
        BigInteger c = a.multiply(all).subtract(BigInteger.ONE).divide(p);
        hand = THREE.modPow(c, n).modInverse(n);
        factor = a.intValueExact();
        return factor;
    }

    int checkExclude(long serial, int epoch) {
        if (n == null || primeOf(serial) < 0 || !isEpoch(epoch)) {
            return n == null ? NONE : BAD;
        }
        BigInteger left = accumulated(epoch).modPow(BigInteger.valueOf(factor), n);
        BigInteger right = hand.modPow(BigInteger.valueOf(primeOf(serial)), n);
        return left.multiply(right).mod(n).equals(THREE) ? 1 : 0;
    }
}
