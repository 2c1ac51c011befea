import java.math.BigInteger;

/** The section 'Terms' of the document: each sentence that names a boundary case has a test of its own. */
public final class TermsTest extends Case {
    public static void main(String[] args) {
        sentence("An object is used for at most 512 calls", TermsTest::allCalls);
        sentence("SERIALS are 0 ..", () -> serialIsGood(0));
        sentence("SERIALS are .. 2^40 - 1", () -> serialIsGood(LAST_SERIAL));
        sentence("SERIALS are 0 .. 2^40 - 1: all 40 bits count", TermsTest::allBitsOfSerials);
        sentence("SERIALS are 0 .. 2^40 - 1: no others are", TermsTest::noSerials);
        sentence("a counter c from 0", TermsTest::firstCounter);
        sentence("a counter c .. to 255", TermsTest::lastCounters);
        sentence("bit 31 becomes 0, the bits 30 and 0 become 1", TermsTest::bitsOfPrimes);
        sentence("the least and the greatest x", TermsTest::leastAndGreatestPrimes);
        sentence("the first x that is a prime number", TermsTest::afterPseudoprimes);
        sentence("Without any there is no prime", TermsTest::withoutPrime);
        sentence("THE HASH of s and c, all modulo 2^32", TermsTest::manyHashes);
        sentence("w(0), w(1) are the upper and the lower 32 bits of s", TermsTest::wordsOfSerials);
        sentence("THE MODULUS N has at most 128 bits", TermsTest::greatestModulus);
        sentence("told by its upper and lower 64 bits, as all numbers below it are", TermsTest::wordsOfNumbers);
        sentence("Powers, products and inverses are meant modulo N", TermsTest::greatestExponents);
        sentence("a PENDING set of at most 10 serials", TermsTest::tenPending);
        sentence("no two of which have the same prime", TermsTest::noTwins);
        sentence("EPOCHS 0, 1, .. 16 at most", TermsTest::sixteenEpochs);
        sentence("epoch 0 is there when the modulus is", TermsTest::epochZero);
        sentence("epoch 0 is there .. without serials", TermsTest::epochZeroIsEmpty);
        sentence("P(e) is .. 1 without any", TermsTest::emptyEpochs);
        sentence("NOW is the latest epoch", TermsTest::latestEpoch);
        sentence("ADDED are the serials that are present in it and not in e - 1", TermsTest::added);
        sentence("REMOVED those that are present in e - 1 and not in e", TermsTest::removed);
        sentence("THE HAND has a number .. at first 0, and a FACTOR, at first 0", TermsTest::handAtFirst);
        sentence("the ISSUED one .. is 3 ^ (P(e) / p)", TermsTest::issuedOnes);
        sentence("All calls answer NONE without a modulus", () -> dueNone(new PartsAccumulator(), 5, 0));
        sentence("0 where words of numbers are told", TermsTest::wordsWithoutModulus);
        sentence("NONE .., then BAD", TermsTest::noneBeforeBad);
        sentence("BAD when a serial is none (or has no prime)", TermsTest::badSerials);
        sentence("BAD .. when an epoch is not there", TermsTest::badEpochs);
        sentence("BAD before what a call refuses itself", TermsTest::badBeforeOthers);
        DUES.end();
    }

    /** The 512th call is a dear one, and is answered as the first would be. */
    private static void allCalls() {
        PartsAccumulator x = new PartsAccumulator();
        int calls = 0;
        for (; calls < 9; calls++) {
            due("call " + (calls + 1) + ", modulus(0, 1)", x.modulus(0, 1), false);
        }
        due("modulus", give(x, N), true);
        due("add(20)", x.add(20), 1);
        due("close()", x.close(), 1);
        due("issue(20)", x.issue(20), 0);
        calls += 4;
        for (int e = 2; e <= 16; e++) {
            x.remove(e + 29);
            x.add(e + 30);
            due("close()", x.close(), e);
            calls += 3;
        }
        for (; calls < 511; calls++) {
            due("call " + (calls + 1) + ", check(20, 1)", x.check(20, 1), 1);
        }
        due("call 512, advance(20, 1)", x.advance(20, 1), 15);
    }

    private static void serialIsGood(long s) {
        PartsAccumulator x = withPending(5);
        due("prime(" + s + ")", x.prime(s), Model.primeOf(s));
        due("state(" + s + ")", x.state(s), 0);
        due("remove(" + s + ")", x.remove(s), ABSENT);
        due("issue(" + s + ")", x.issue(s), ABSENT);
        due("exclude(" + s + ")", x.exclude(s), 1);
        due("checkExclude(" + s + ", 0)", x.checkExclude(s, 0), 1);
        due("add(" + s + ")", x.add(s), 2);
        due("state(" + s + ")", x.state(s), 2);
        due("close()", x.close(), 1);
        due("state(" + s + ")", x.state(s), 3);
        dueWitness(x, s, accumulated(5));
        due("issue(" + s + ")", x.issue(s), 1);
        due("check(" + s + ", 1)", x.check(s, 1), 1);
        due("advance(" + s + ", 1)", x.advance(s, 1), 0);
        due("exclude(" + s + ")", x.exclude(s), PRESENT);
        due("remove(" + s + ")", x.remove(s), 1);
    }

    /** Each pair differs in one bit only. */
    private static void allBitsOfSerials() {
        for (int bit = 0; bit < 40; bit++) {
            long other = 5 ^ (1L << bit);
            PartsAccumulator x = withPresent(5);
            due("state(" + other + ")", x.state(other), 0);
            dueWitness(x, other, ZERO);
            due("prime(" + other + ")", x.prime(other), Model.primeOf(other));
            due("add(" + other + ")", x.add(other), 2);
            due("state(5)", x.state(5), 3);
            due("remove(5)", x.remove(5), 1);
            due("state(" + other + ")", x.state(other), 2);
        }
    }

    private static void noSerials() {
        PartsAccumulator x = withPresent(5, TWIN, 0, LAST_SERIAL);
        for (int bit = 40; bit < 64; bit++) {
            due("prime(2^" + bit + ")", x.prime(1L << bit), BAD);
            due("prime(5 + 2^" + bit + ")", x.prime(5 | 1L << bit), BAD);
            due("state(5 + 2^" + bit + ")", x.state(5 | 1L << bit), BAD);
            due("add(6 + 2^" + bit + ")", x.add(6 | 1L << bit), BAD);
            due("witness(5 + 2^" + bit + ", false)", x.witness(5 | 1L << bit, false), 0);
        }
        for (long s : new long[] {-1, -2, -SERIALS, SERIALS, SERIALS + 1, Long.MAX_VALUE, Long.MIN_VALUE}) {
            due("prime(" + s + ")", x.prime(s), BAD);
            due("add(" + s + ")", x.add(s), BAD);
        }
        dueSizes(x, 4, 4, 1);
    }

    private static void firstCounter() {
        long s = 164789246;
        due("the model's counter of " + s, Model.counterOf(s), 0);
        due("prime(" + s + ")", new PartsAccumulator().prime(s), 1073741831);
        for (long other = 0; other < 60; other++) {
            due("prime(" + other + ")", new PartsAccumulator().prime(other), Model.primeOf(other));
        }
    }

    /** Serials, found by search, whose first prime comes late. */
    private static void lastCounters() {
        long[] serials = {20501489, 12887952554L, 8594130623L, 4434283575L, 1001115361827L};
        int[] counters = {190, 220, 230, 243, 250};
        for (int i = 0; i < serials.length; i++) {
            due("the model's counter of " + serials[i], Model.counterOf(serials[i]), counters[i]);
            due("prime(" + serials[i] + ")", new PartsAccumulator().prime(serials[i]), Model.primeOf(serials[i]));
        }
    }

    /** The primes of serials whose hash has each of the eight patterns in these three bits. */
    private static void bitsOfPrimes() {
        PartsAccumulator x = new PartsAccumulator();
        int[] seen = new int[8];
        for (long s = 0; s < 150; s++) {
            int hash = Model.hash(s, Model.counterOf(s));
            int pattern = (hash >>> 31) * 4 + ((hash >>> 30) & 1) * 2 + (hash & 1);
            seen[pattern]++;
            due("prime(" + s + ") of the hash " + hash, x.prime(s), (hash & 0x3ffffffe) + 0x40000001);
        }
        for (int pattern = 0; pattern < 8; pattern++) {
            due("the pattern " + pattern + " was seen", seen[pattern] > 0, true);
        }
    }

    private static void leastAndGreatestPrimes() {
        PartsAccumulator x = new PartsAccumulator();
        BigInteger below = ONE.shiftLeft(30);
        for (long s : OF_LEAST_PRIMES) {
            below = below.nextProbablePrime();
            due("prime(" + s + ")", x.prime(s), below.intValueExact());
        }
        due("the least prime", x.prime(OF_LEAST_PRIMES[0]), (1 << 30) + 3);
        due("the greatest prime", x.prime(OF_GREATEST_PRIMES[0]), Integer.MAX_VALUE);
        int last = OF_GREATEST_PRIMES.length - 1;
        BigInteger above = BigInteger.valueOf(x.prime(OF_GREATEST_PRIMES[last]));
        for (int i = last - 1; i >= 0; i--) {
            above = above.nextProbablePrime();
            due("prime(" + OF_GREATEST_PRIMES[i] + ")", x.prime(OF_GREATEST_PRIMES[i]), above.intValueExact());
        }
    }

    /**
     * Serials, found by search, with a composite before their prime that passes for a prime in a weaker test:
     * the strong tests to two of the bases 2, 7 and 61, or to one of them, or Fermat's test to all three.
     */
    private static void afterPseudoprimes() {
        PartsAccumulator x = new PartsAccumulator();
        long[] serials = {
            7857843, 7926691, 7245177, 9452098, 13440921, 15608037, 16467515, 12649901, 17532139, 21521927,
            290781, 357388, 37627, 59155, 22933, 117853, 382481, 533212, 537559, 1043477
        };
        for (long s : serials) {
            due("prime(" + s + ")", x.prime(s), Model.primeOf(s));
        }
    }

    private static void withoutPrime() {
        due("the model's counter", Model.counterOf(WITHOUT_PRIME), 256);
        int next = (Model.hash(WITHOUT_PRIME, 256) & 0x3ffffffe) + 0x40000001;
        due("the counter 256 would bring a prime", BigInteger.valueOf(next).isProbablePrime(60), true);
        due("prime(549793598160), the next prime being far", new PartsAccumulator().prime(549793598160L), BAD);
        due("prime without a modulus", new PartsAccumulator().prime(WITHOUT_PRIME), BAD);
        dueBadSerial(withPresent(5, 6), WITHOUT_PRIME);
        dueBadSerial(withModulus(N), WITHOUT_PRIME);
    }

    private static void manyHashes() {
        PartsAccumulator x = new PartsAccumulator();
        for (long s = 0; s < 250; s++) {
            long wide = s * 4397000000L + 77;
            due("prime(" + wide + ")", x.prime(wide), Model.primeOf(wide));
        }
    }

    private static void wordsOfSerials() {
        PartsAccumulator x = new PartsAccumulator();
        long[] serials = {
            1, 1L << 32, (1L << 32) - 1, (1L << 32) + 1, 1L << 31, (1L << 31) - 1, (1L << 33) - 1, 0xff00000000L,
            0xffL, 0xff80000000L, 1L << 39, (1L << 39) - 1, LAST_SERIAL - 1, 0x8000000080L, 0x8080808080L
        };
        for (long s : serials) {
            due("prime(" + s + ")", x.prime(s), Model.primeOf(s));
        }
        due("prime(0)", x.prime(0), 1533390917);
        due("prime(1)", x.prime(1), 1494917917);
        due("prime(2^40 - 1)", x.prime(LAST_SERIAL), 1542615743);
    }

    private static void greatestModulus() {
        PartsAccumulator x = withModulus(GREATEST_N);
        hold(x, GREATEST_N, 0, false);
        hold(x, GREATEST_N.subtract(ONE), 0, true);
        dueHand("after hold", x, GREATEST_N.subtract(ONE), 0);
        due("add(5)", x.add(5), 1);
        due("close()", x.close(), 1);
        dueAccumulator(x, 1, THREE.modPow(primeOf(5), GREATEST_N));
        due("check(5, 1): an odd power of -1", x.check(5, 1), 0);
        hold(x, THREE, 0, true);
        due("check(5, 1)", x.check(5, 1), 1);
    }

    /** Moduli whose words are at the borders of what 64 bits can say with and without a sign. */
    private static void wordsOfNumbers() {
        long[] uppers = {1L << 36, Long.MAX_VALUE, Long.MIN_VALUE, -1};
        long[] lowers = {1, 3, Long.MAX_VALUE, Long.MAX_VALUE - 2, Long.MIN_VALUE + 1, Long.MIN_VALUE + 3, -1, -3};
        for (long upper : uppers) {
            for (long lower : lowers) {
                BigInteger n = Model.join(upper, lower);
                if (n.mod(THREE).signum() != 0) {
                    dueWords(n);
                }
            }
        }
    }

    private static void dueWords(BigInteger n) {
        PartsAccumulator x = withModulus(n);
        long upper = Model.word(n, true), lower = Model.word(n, false);
        due("hold(N)", x.hold(upper, lower, 0), false);
        due("hold(N - 1)", x.hold(upper, lower - 1, 1), true);
        due("hand(true)", x.hand(true), upper);
        due("hand(false)", x.hand(false), lower - 1);
        due("hold(upper - 1, -1)", x.hold(upper - 1, -1, 1), true);
        due("hand(true)", x.hand(true), upper - 1);
        due("hand(false)", x.hand(false), -1);
        if (upper != -1) {
            hold(x, n.add(ONE.shiftLeft(64)), 0, false);
        }
        addAll(x, 5, 6, 7);
        due("close()", x.close(), 1);
        dueAccumulator(x, 1, THREE.modPow(product(5, 6, 7), n));
        dueWitness(x, 6, THREE.modPow(product(5, 7), n));
    }

    /** The ten greatest primes make the greatest exponents, the ten least the least ones of ten. */
    private static void greatestExponents() {
        for (BigInteger n : new BigInteger[] {GREATEST_N, LEAST_N, N}) {
            for (long[] ten : new long[][] {OF_GREATEST_PRIMES, OF_LEAST_PRIMES}) {
                dueExponents(n, ten, OF_GREATEST_PRIMES[0], OF_LEAST_PRIMES[0]);
            }
        }
    }

    private static void dueExponents(BigInteger n, long[] ten, long greatest, long least) {
        PartsAccumulator x = withModulus(n);
        Model model = new Model();
        model.modulus(Model.word(n, true), Model.word(n, false));
        long outside = ten[0] == greatest ? least : greatest;
        for (long s : ten) {
            due("add(" + s + ")", x.add(s), model.add(s));
        }
        due("close()", x.close(), model.close());
        dueAccumulator(x, 1, model.accumulated(1));
        dueWitness(x, ten[0], model.issued(ten[0]));
        due("exclude(" + outside + ")", x.exclude(outside), model.exclude(outside));
        dueHand("after exclude", x, model.hand, model.factor);
        due("checkExclude(" + outside + ", 1)", x.checkExclude(outside, 1), 1);
        due("issue(" + ten[0] + ")", x.issue(ten[0]), model.issue(ten[0]));
        for (int i = 1; i < 10; i++) {
            due("remove(" + ten[i] + ")", x.remove(ten[i]), model.remove(ten[i]));
        }
        due("close()", x.close(), model.close());
        due("advance(" + ten[0] + ", 1)", x.advance(ten[0], 1), model.advance(ten[0], 1));
        dueHand("after advance", x, model.hand, 0);
        dueHand("after advance, the witness of the only one", x, THREE, 0);
    }

    private static void tenPending() {
        PartsAccumulator x = withPending(range(1, 9));
        due("add(10), the tenth", x.add(10), 10);
        due("add(11), an eleventh", x.add(11), FULL);
        due("size(1)", x.size(1), 10);
        due("close()", x.close(), 1);
        due("size(0)", x.size(0), 10);
        due("add(11) after close", x.add(11), FULL);
        due("remove(1)", x.remove(1), 9);
        due("add(11)", x.add(11), 10);
        due("add(1)", x.add(1), FULL);
        dueAccumulator(x, 1, accumulated(range(1, 10)));
    }

    private static void noTwins() {
        PartsAccumulator x = withPending(TWIN);
        due("prime(802)", x.prime(OTHER_TWIN), x.prime(TWIN));
        due("add(802)", x.add(OTHER_TWIN), CLASH);
        due("state(802)", x.state(OTHER_TWIN), 0);
        due("state(519)", x.state(TWIN), 2);
        PartsAccumulator y = withPending(OTHER_TWIN);
        due("add(519)", y.add(TWIN), CLASH);
        due("state(519)", y.state(TWIN), 0);
    }

    private static void sixteenEpochs() {
        PartsAccumulator x = withModulus(N);
        for (int e = 1; e <= 16; e++) {
            dueAccumulator(x, e, ZERO);
            due("add(" + e + ")", x.add(e), 1);
            due("close()", x.close(), e);
            dueAccumulator(x, e, accumulated(e));
            due("remove(" + e + ")", x.remove(e), 0);
        }
        due("close(), a seventeenth", x.close(), FULL);
        dueSizes(x, 1, 0, 16);
        for (int e = 0; e <= 16; e++) {
            dueAccumulator(x, e, e == 0 ? THREE : accumulated(e));
        }
        dueAccumulator(x, 17, ZERO);
    }

    private static void epochZero() {
        PartsAccumulator x = new PartsAccumulator();
        due("size(2)", x.size(2), NONE);
        dueAccumulator(x, 0, ZERO);
        due("check(5, 0)", x.check(5, 0), NONE);
        due("modulus(N)", give(x, N), true);
        due("size(2)", x.size(2), 0);
        dueAccumulator(x, 0, THREE);
        dueAccumulator(x, 1, ZERO);
        due("check(5, 0)", x.check(5, 0), 0);
        due("check(5, 1)", x.check(5, 1), BAD);
    }

    private static void epochZeroIsEmpty() {
        PartsAccumulator x = withModulus(N);
        dueSizes(x, 0, 0, 0);
        due("state(5)", x.state(5), 0);
        due("issue(5)", x.issue(5), ABSENT);
        due("exclude(5)", x.exclude(5), 1);
        due("advance(5, 0)", x.advance(5, 0), ABSENT);
        due("add(5)", x.add(5), 1);
        dueSizes(x, 0, 1, 0);
        dueAccumulator(x, 0, THREE);
        due("close()", x.close(), 1);
        dueAccumulator(x, 0, THREE);
        due("advance(5, 0)", x.advance(5, 0), ABSENT);
        due("note(1, 0, 0): all of epoch 1 are added", x.note(1, 0, 0), 1);
    }

    private static void emptyEpochs() {
        PartsAccumulator x = withModulus(N);
        due("close() of none", x.close(), 1);
        dueAccumulator(x, 1, THREE);
        due("exclude(5) with none present", x.exclude(5), 1);
        dueHand("after exclude", x, ONE, 1);
        due("add(5)", x.add(5), 1);
        due("close()", x.close(), 2);
        due("remove(5)", x.remove(5), 0);
        due("close() of none again", x.close(), 3);
        dueAccumulator(x, 3, THREE);
        dueSizes(x, 0, 0, 3);
        dueHand("as before", x, ONE, 1);
        due("checkExclude(5, 3)", x.checkExclude(5, 3), 1);
        due("checkExclude(5, 2)", x.checkExclude(5, 2), 0);
    }

    private static void latestEpoch() {
        PartsAccumulator x = withPresent(5);
        due("remove(5)", x.remove(5), 0);
        due("add(6)", x.add(6), 1);
        due("close()", x.close(), 2);
        due("size(2)", x.size(2), 2);
        due("state(5): present before NOW", x.state(5), 0);
        due("state(6)", x.state(6), 3);
        dueWitness(x, 5, ZERO);
        dueWitness(x, 6, THREE);
        due("issue(5)", x.issue(5), ABSENT);
        dueExcluded(x, 5, 6);
    }

    private static void added() {
        PartsAccumulator x = withPresent(5, 6);
        due("note(1, 0, 0)", x.note(1, 0, 0), 2);
        due("remove(5)", x.remove(5), 1);
        due("add(5): back before the epoch closes", x.add(5), 2);
        due("add(7)", x.add(7), 3);
        due("add(8)", x.add(8), 4);
        due("remove(8): gone before the epoch closes", x.remove(8), 3);
        due("close()", x.close(), 2);
        due("note(2, 0, 0)", x.note(2, 0, 0), 1);
        due("note(2, 2, 0)", x.note(2, 2, 0), Model.primeOf(7));
        due("close() without a change", x.close(), 3);
        due("note(3, 0, 0)", x.note(3, 0, 0), 0);
        due("note(3, 2, 0)", x.note(3, 2, 0), BAD);
        due("note(1, 0, 0) of an epoch of old", x.note(1, 0, 0), 2);
    }

    private static void removed() {
        PartsAccumulator x = withPresent(5, 6, 7);
        due("note(1, 1, 0)", x.note(1, 1, 0), 0);
        due("note(1, 3, 0)", x.note(1, 3, 0), BAD);
        due("remove(6)", x.remove(6), 2);
        due("remove(7)", x.remove(7), 1);
        due("add(7): back before the epoch closes", x.add(7), 2);
        due("close()", x.close(), 2);
        due("note(2, 1, 0)", x.note(2, 1, 0), 1);
        due("note(2, 3, 0)", x.note(2, 3, 0), Model.primeOf(6));
        due("add(6): back an epoch later", x.add(6), 3);
        due("close()", x.close(), 3);
        due("note(3, 1, 0)", x.note(3, 1, 0), 0);
        due("note(3, 0, 0)", x.note(3, 0, 0), 1);
        due("note(2, 1, 0) of an epoch of old", x.note(2, 1, 0), 1);
    }

    private static void handAtFirst() {
        PartsAccumulator x = withModulus(N);
        dueHand("at first", x, ZERO, 0);
        due("check(5, 0) of 0", x.check(5, 0), 0);
        due("checkExclude(5, 0) of 0", x.checkExclude(5, 0), 0);
        due("add(5)", x.add(5), 1);
        due("close()", x.close(), 1);
        dueHand("after a close", x, ZERO, 0);
        due("check(5, 1) of 0", x.check(5, 1), 0);
        due("advance(5, 1) of 0", x.advance(5, 1), WRONG);
    }

    private static void issuedOnes() {
        PartsAccumulator one = withPresent(5);
        dueWitness(one, 5, THREE);
        PartsAccumulator ten = withPresent(range(1, 10));
        for (long s = 1; s <= 10; s++) {
            dueWitness(ten, s, powerOfThree(product(range(1, 10)).divide(primeOf(s))));
        }
    }

    private static void dueNone(PartsAccumulator x, long serial, int epoch) {
        due("add", x.add(serial), NONE);
        due("remove", x.remove(serial), NONE);
        due("close", x.close(), NONE);
        for (int k = -1; k <= 3; k++) {
            due("size(" + k + ")", x.size(k), NONE);
        }
        due("state", x.state(serial), NONE);
        for (int what = -1; what <= 4; what++) {
            due("note(" + epoch + ", " + what + ", 0)", x.note(epoch, what, 0), NONE);
            due("note(" + epoch + ", " + what + ", -1)", x.note(epoch, what, -1), NONE);
        }
        due("issue", x.issue(serial), NONE);
        due("factor", x.factor(), NONE);
        due("check", x.check(serial, epoch), NONE);
        due("advance", x.advance(serial, epoch), NONE);
        due("exclude", x.exclude(serial), NONE);
        due("checkExclude", x.checkExclude(serial, epoch), NONE);
    }

    private static void wordsWithoutModulus() {
        PartsAccumulator x = new PartsAccumulator();
        for (int e : new int[] {0, 1, 16, 17, -1}) {
            dueAccumulator(x, e, ZERO);
        }
        for (long s : new long[] {5, 0, LAST_SERIAL, -1, SERIALS, WITHOUT_PRIME}) {
            dueWitness(x, s, ZERO);
        }
        due("hand(true)", x.hand(true), 0);
        due("hand(false)", x.hand(false), 0);
    }

    private static void noneBeforeBad() {
        for (long s : NO_SERIALS) {
            dueNone(new PartsAccumulator(), s, 0);
        }
        for (int e : NEVER_EPOCHS) {
            dueNone(new PartsAccumulator(), 5, e);
        }
        dueNone(new PartsAccumulator(), -1, 17);
        PartsAccumulator x = new PartsAccumulator();
        withModulus(N);
        dueNone(x, 5, 0);
        due("modulus(0, 5), refused", x.modulus(0, 5), false);
        dueNone(x, 5, 0);
    }

    private static void dueBadSerial(PartsAccumulator x, long s) {
        due("prime(" + s + ")", x.prime(s), BAD);
        due("add(" + s + ")", x.add(s), BAD);
        due("remove(" + s + ")", x.remove(s), BAD);
        due("state(" + s + ")", x.state(s), BAD);
        dueWitness(x, s, ZERO);
        due("issue(" + s + ")", x.issue(s), BAD);
        due("exclude(" + s + ")", x.exclude(s), BAD);
        for (int e : new int[] {0, x.size(2), 17, -1}) {
            due("check(" + s + ", " + e + ")", x.check(s, e), BAD);
            due("advance(" + s + ", " + e + ")", x.advance(s, e), BAD);
            due("checkExclude(" + s + ", " + e + ")", x.checkExclude(s, e), BAD);
        }
    }

    private static void badSerials() {
        for (long s : NO_SERIALS) {
            dueBadSerial(withModulus(N), s);
            PartsAccumulator x = withPresent(5, TWIN, 0, LAST_SERIAL);
            due("issue(5)", x.issue(5), 3);
            dueBadSerial(x, s);
        }
    }

    private static void dueBadEpoch(PartsAccumulator x, int e) {
        dueAccumulator(x, e, ZERO);
        for (int what = -1; what <= 4; what++) {
            due("note(" + e + ", " + what + ", 0)", x.note(e, what, 0), BAD);
        }
        for (long s : new long[] {5, 9, -1}) {
            due("check(" + s + ", " + e + ")", x.check(s, e), BAD);
            due("advance(" + s + ", " + e + ")", x.advance(s, e), BAD);
            due("checkExclude(" + s + ", " + e + ")", x.checkExclude(s, e), BAD);
        }
    }

    /** After each close there is one epoch more, and the next one is not there yet. */
    private static void badEpochs() {
        for (int now = 0; now <= 16; now++) {
            PartsAccumulator x = withPending(5, TWIN);
            closeUntil(x, now);
            due("issue(5)", x.issue(5), now == 0 ? ABSENT : 1);
            dueBadEpoch(x, now + 1);
            for (int e : NEVER_EPOCHS) {
                dueBadEpoch(x, e);
            }
            due("check(5, NOW)", x.check(5, now), now == 0 ? 0 : 1);
            due("advance(5, NOW)", x.advance(5, now), now == 0 ? ABSENT : 0);
            due("checkExclude(5, NOW)", x.checkExclude(5, now), 0);
        }
    }

    private static void badBeforeOthers() {
        PartsAccumulator x = withPresent(range(0, 10));
        closeUntil(x, 16);
        for (long s : NO_SERIALS) {
            due("add(" + s + ") when full", x.add(s), BAD);
            due("remove(" + s + "), not pending", x.remove(s), BAD);
            due("issue(" + s + "), not present", x.issue(s), BAD);
            due("advance(" + s + ", 0), not present", x.advance(s, 0), BAD);
        }
        due("advance(5, 17) without a witness", x.advance(5, 17), BAD);
        due("advance(99, 17) of one not present", x.advance(99, 17), BAD);
    }
}
