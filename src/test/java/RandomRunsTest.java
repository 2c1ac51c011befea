import java.math.BigInteger;
import java.util.Random;

/** Long runs of calls, the same each time, whose answers must be those of the model. */
public final class RandomRunsTest {
    private static final int RUNS = 400;
    /** The document promises 512 calls of an object; a step makes at most 4. */
    private static final int MOST_CALLS = 512, MOST_CALLS_OF_A_STEP = 4;
    /** Pairs with one prime among them: 519 and 802, 2572 and 10820, 9264 and 14484; then great and small primes. */
    private static final long[] EDGES = {
        519, 802, 2572, 10820, 9264, 14484, 0, 1, 77, (1L << 40) - 1, 1L << 32, (1L << 32) - 1, 1L << 31, 5, 6, 7,
        20570280, 59902071, 33562082, 14550285, 45251443
    };

    private final Dues dues = new Dues();
    private Random random;
    private PartsAccumulator x;
    private Model model;
    private String name;
    private long[] pool;

    public static void main(String[] args) {
        RandomRunsTest test = new RandomRunsTest();
        for (int run = 0; run < RUNS && test.dues.wrong() < 20; run++) {
            test.oneRun(run);
        }
        test.dues.end();
    }

    private void oneRun(int run) {
        random = new Random(run);
        x = new PartsAccumulator();
        model = new Model();
        name = "run " + run + ": ";
        pool = pool(run);
        int before = dues.asked();
        if (random.nextInt(8) == 0) {
            for (int i = 0; i < 20; i++) {
                oneStep();
            }
        }
        for (int tries = 0; tries < 50 && model.n == null; tries++) {
            BigInteger n = modulus(run);
            modulus(Model.word(n, true), Model.word(n, false));
        }
        while (dues.asked() - before <= MOST_CALLS - MOST_CALLS_OF_A_STEP) {
            oneStep();
        }
    }

    /** A small pool makes witnesses live long; a large one makes the register full. */
    private long[] pool(int run) {
        long[] chosen = new long[6 + random.nextInt(20)];
        for (int i = 0; i < chosen.length; i++) {
            boolean edge = random.nextInt(3) != 0;
            chosen[i] = edge ? EDGES[random.nextInt(EDGES.length)] : random.nextInt(500);
        }
        return chosen;
    }

    private BigInteger modulus(int run) {
        switch (run % 6) {
            case 0:
                return BigInteger.ONE.shiftLeft(128).subtract(BigInteger.valueOf(3 + 2 * random.nextInt(9)));
            case 1:
                return BigInteger.ONE.shiftLeft(100).add(BigInteger.valueOf(1 + 2 * random.nextInt(9)));
            case 2:
                return withRootsOf(Model.primeOf(pool[0]));
            case 3:
                return BigInteger.valueOf(Model.primeOf(pool[0])).multiply(new BigInteger(90, random).setBit(89).setBit(0));
            case 4:
                return Model.join(random.nextLong() | 0xffffffffL << 16, random.nextLong() | 1);
            default:
                return new BigInteger(101 + random.nextInt(28), random).setBit(100).setBit(0);
        }
    }

    /** A modulus with a prime factor k p + 1: there a serial has several witnesses, not the issued one alone. */
    private BigInteger withRootsOf(int p) {
        for (int k = 2; ; k += 2) {
            BigInteger factor = BigInteger.valueOf(p).multiply(BigInteger.valueOf(k)).add(BigInteger.ONE);
            if (factor.isProbablePrime(60)) {
                BigInteger other = new BigInteger(120 - factor.bitLength(), random).setBit(119 - factor.bitLength());
                return factor.multiply(other.setBit(0));
            }
        }
    }

    private void modulus(long upper, long lower) {
        dues.due(name + "modulus(" + upper + ", " + lower + ")", x.modulus(upper, lower), model.modulus(upper, lower));
    }

    private void oneStep() {
        long s = random.nextInt(25) == 0 ? Case.NO_SERIALS[random.nextInt(Case.NO_SERIALS.length)] : pool[random.nextInt(pool.length)];
        int top = Math.max(model.now(), 0);
        int e = random.nextInt(20) == 0 ? random.nextInt() : random.nextInt(top + 2) - (random.nextInt(20) == 0 ? 1 : 0);
        boolean upper = random.nextBoolean();
        switch (random.nextInt(26)) {
            case 0: modulus(random.nextLong(), random.nextLong() | 1); break;
            case 1: dues.due(name + "prime(" + s + ")", x.prime(s), Model.primeOf(s)); break;
            case 2: case 3: case 4: case 5: dues.due(name + "add(" + s + ")", x.add(s), model.add(s)); break;
            case 6: case 7: remove(s); break;
            case 8:
                if (random.nextInt(2) == 0) {
                    dues.due(name + "close()", x.close(), model.close());
                }
                break;
            case 9: sizes(); break;
            case 10: dues.due(name + "state(" + s + ")", x.state(s), model.state(s)); break;
            case 11: dues.due(name + "accumulator(" + e + ")", x.accumulator(e, upper), model.accumulator(e, upper)); break;
            case 12: case 13: notes(e); break;
            case 14: dues.due(name + "witness(" + s + ")", x.witness(s, upper), model.witness(s, upper)); break;
            case 15: dues.due(name + "issue(" + s + ")", x.issue(s), model.issue(s)); break;
            case 16: dues.due(name + "issue(" + pool[0] + ")", x.issue(pool[0]), model.issue(pool[0])); break;
            case 17: holdAnything(); break;
            case 18: holdOtherWitness(pool[0]); break;
            case 19: dues.due(name + "check(" + s + ", " + e + ")", x.check(s, e), model.check(s, e)); break;
            case 20: case 21: dues.due(name + "advance(" + s + ", " + e + ")", x.advance(s, e), model.advance(s, e)); break;
            case 22: moveHeldWitness(); break;
            case 23: dues.due(name + "exclude(" + s + ")", x.exclude(s), model.exclude(s)); break;
            default: dues.due(name + "checkExclude(" + s + ", " + e + ")", x.checkExclude(s, e), model.checkExclude(s, e)); break;
        }
        if (random.nextInt(4) == 0) {
            hand();
        }
    }

    private void hand() {
        dues.due(name + "hand(true)", x.hand(true), model.hand(true));
        dues.due(name + "hand(false)", x.hand(false), model.hand(false));
        dues.due(name + "factor()", x.factor(), model.factor());
    }

    /** The first serial of the pool mostly stays, so that its witnesses live through many epochs. */
    private void remove(long s) {
        if (s != pool[0] || random.nextInt(10) == 0) {
            dues.due(name + "remove(" + s + ")", x.remove(s), model.remove(s));
        }
    }

    private void sizes() {
        int k = random.nextInt(5) - 1;
        dues.due(name + "size(" + k + ")", x.size(k), model.size(k));
    }

    private void notes(int e) {
        int what = random.nextInt(6) - 1;
        int i = random.nextInt(8) == 0 ? random.nextInt() : random.nextInt(6) - 1;
        dues.due(name + "note(" + e + ", " + what + ", " + i + ")", x.note(e, what, i), model.note(e, what, i));
    }

    private void hold(BigInteger number, int factor) {
        long upper = Model.word(number, true), lower = Model.word(number, false);
        String call = name + "hold(" + upper + ", " + lower + ", " + factor + ")";
        dues.due(call, x.hold(upper, lower, factor), model.hold(upper, lower, factor));
    }

    private void holdAnything() {
        BigInteger n = model.n == null ? BigInteger.TEN : model.n;
        BigInteger number = new BigInteger[] {
            n, n.subtract(BigInteger.ONE), n.add(BigInteger.ONE), BigInteger.ZERO, new BigInteger(128, random),
            n.add(BigInteger.ONE.shiftLeft(64)), n.subtract(BigInteger.ONE.shiftLeft(64)).abs()
        }[random.nextInt(7)];
        hold(number, random.nextInt(4) == 0 ? random.nextInt() : random.nextInt(3));
    }

    /** The issued witness times a root of 1, where the modulus has one; else the issued witness itself. */
    private void holdOtherWitness(long s) {
        if (model.n == null || !model.presentNow().containsKey(s)) {
            return;
        }
        BigInteger p = BigInteger.valueOf(Model.primeOf(s));
        for (int k = 2; k < 1000; k += 2) {
            BigInteger q = p.multiply(BigInteger.valueOf(k)).add(BigInteger.ONE);
            if (model.n.mod(q).signum() == 0) {
                // 1 modulo the rest of N, a p-th root of 1 modulo q
                BigInteger rest = model.n.divide(q);
                if (rest.gcd(q).equals(BigInteger.ONE)) {
                    BigInteger root = BigInteger.valueOf(5).modPow(BigInteger.valueOf(k), q);
                    BigInteger lift = root.subtract(BigInteger.ONE).multiply(rest.modInverse(q)).mod(q);
                    BigInteger one = lift.multiply(rest).add(BigInteger.ONE).mod(model.n);
                    hold(model.issued(s).multiply(one).mod(model.n), random.nextInt(2));
                    return;
                }
            }
        }
        hold(model.issued(s), 7);
    }

    /** Looks for a serial and an epoch for which the hand has a witness, so that moves are common. */
    private void moveHeldWitness() {
        if (model.n == null) {
            return;
        }
        for (int e = 0; e <= model.now(); e++) {
            for (long s : pool) {
                if (model.check(s, e) == 1) {
                    dues.due(name + "advance(" + s + ", " + e + ")", x.advance(s, e), model.advance(s, e));
                    return;
                }
            }
        }
    }
}
