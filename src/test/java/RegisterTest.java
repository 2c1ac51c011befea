import java.math.BigInteger;

/** Promises 1 to 10, sentence by sentence: ordinary inputs, the boundary cases, and wrong inputs. */
public final class RegisterTest extends Case {
    private static final int[] FAR_OFF = {-1, Integer.MAX_VALUE, Integer.MIN_VALUE};

    public static void main(String[] args) {
        sentence("the constants of the face", RegisterTest::constants);
        sentence("1: No modulus", RegisterTest::noModulus);
        sentence("2: The modulus is given: true", RegisterTest::modulusGiven);
        sentence("2: false, refused, when there is one", RegisterTest::modulusGivenTwice);
        sentence("2: false, refused, when it is even", RegisterTest::modulusEven);
        sentence("2: false, refused, when it is a multiple of 3", RegisterTest::modulusMultipleOfThree);
        sentence("2: false, refused, when it is less than 2^100", RegisterTest::modulusTooSmall);
        sentence("3: The prime of a serial (also without a modulus)", RegisterTest::prime);
        sentence("3: BAD when there is none", RegisterTest::primeOfNone);
        sentence("4: A serial becomes pending: how many are then", RegisterTest::add);
        sentence("4: A serial becomes pending, the first and the tenth", RegisterTest::addFirstAndTenth);
        sentence("4: PRESENT when it is", RegisterTest::addPending);
        sentence("4: CLASH when another one has its prime", RegisterTest::addTwin);
        sentence("4: FULL when there are 10", RegisterTest::addWhenFull);
        sentence("4: PRESENT and CLASH go before FULL", RegisterTest::addWhenFullOtherwise);
        sentence("5: A serial is pending no more: how many are then", RegisterTest::remove);
        sentence("5: how many are then: from ten to none", RegisterTest::removeFromTenToNone);
        sentence("5: ABSENT when it is not", RegisterTest::removeOfNone);
        sentence("6: there is one more, in which the pending ones are present: its number", RegisterTest::close);
        sentence("6: they stay pending", RegisterTest::closeKeepsPending);
        sentence("6: an epoch closed without serials, or without a change", RegisterTest::closeOfNone);
        sentence("6: FULL when NOW is 16", RegisterTest::closeWhenFull);
        sentence("7: How many serials are present now (k = 0)", RegisterTest::sizePresent);
        sentence("7: are pending (1)", RegisterTest::sizePending);
        sentence("7: the number of NOW (2)", RegisterTest::sizeNow);
        sentence("7: BAD when k is none of these", RegisterTest::sizeOfNone);
        sentence("8: 1 if a serial is present now, and 2 more if it is pending", RegisterTest::state);
        sentence("9: The upper or lower 64 bits of the accumulator of an epoch", RegisterTest::accumulator);
        sentence("9: 0 when there is none", RegisterTest::accumulatorOfNone);
        sentence("10: Of an epoch from 1 on", RegisterTest::noteFromOneOn);
        sentence("10: how many serials were added (what = 0) or removed (1)", RegisterTest::noteCounts);
        sentence("10: the prime of the i-th one .. by rising serials, from 0", RegisterTest::notePrimes);
        sentence("10: ten added, ten removed", RegisterTest::noteOfTen);
        sentence("10: a serial removed, another one with its prime added", RegisterTest::noteOfTwins);
        sentence("10: BAD also when what is none of these", RegisterTest::noteOfOther);
        sentence("10: BAD also when there is no such serial", RegisterTest::noteOfNoSerial);
        DUES.end();
    }

    private static void constants() {
        due("NONE", PartsAccumulator.NONE, -1);
        due("BAD", PartsAccumulator.BAD, -2);
        due("PRESENT", PartsAccumulator.PRESENT, -3);
        due("ABSENT", PartsAccumulator.ABSENT, -4);
        due("CLASH", PartsAccumulator.CLASH, -5);
        due("FULL", PartsAccumulator.FULL, -6);
        due("WRONG", PartsAccumulator.WRONG, -7);
    }

    private static void noModulus() {
        PartsAccumulator x = new PartsAccumulator();
        due("size(2)", x.size(2), NONE);
        due("add(5)", x.add(5), NONE);
        due("close()", x.close(), NONE);
        due("factor()", x.factor(), NONE);
        withModulus(N);
        due("size(2) after another object got a modulus", x.size(2), NONE);
        due("modulus(N)", give(x, N), true);
        due("modulus(N) of a second object", give(new PartsAccumulator(), N), true);
        dueSizes(x, 0, 0, 0);
    }

    /** The least and the greatest that fit, and all near them and near the borders of the words. */
    private static void modulusGiven() {
        due("modulus(2^100 + 1)", give(new PartsAccumulator(), LEAST_N), true);
        due("modulus(2^128 - 3)", give(new PartsAccumulator(), GREATEST_N), true);
        BigInteger[] starts = {LEAST_N, ONE.shiftLeft(127).subtract(BigInteger.TEN), GREATEST_N.subtract(BigInteger.valueOf(38)), N};
        for (BigInteger start : starts) {
            for (int i = 0; i < 40; i++) {
                dueModulus(start.add(BigInteger.valueOf(i)));
            }
        }
        for (int bit = 100; bit < 128; bit++) {
            dueModulus(ONE.shiftLeft(bit).add(ONE));
            dueModulus(ONE.shiftLeft(bit).add(THREE));
            dueModulus(ONE.shiftLeft(bit).add(BigInteger.valueOf(5)));
        }
    }

    private static void dueModulus(BigInteger n) {
        PartsAccumulator x = new PartsAccumulator();
        boolean fits = n.testBit(0) && n.mod(THREE).signum() != 0;
        due("modulus(" + n + ")", give(x, n), fits);
        due("size(2) after modulus(" + n + ")", x.size(2), fits ? 0 : NONE);
        due("modulus(2^100 + 1) after that", give(x, LEAST_N), !fits);
    }

    private static void modulusGivenTwice() {
        PartsAccumulator x = withModulus(N);
        due("the same modulus again", give(x, N), false);
        due("a greater one", give(x, GREATEST_N), false);
        due("a smaller one", give(x, LEAST_N), false);
        due("one that does not fit", x.modulus(0, 0), false);
        hold(x, N.subtract(ONE), 0, true);
        hold(x, N, 0, false);
        due("close()", x.close(), 1);
        due("another one after a close", give(x, LEAST_N), false);
    }

    private static void modulusEven() {
        for (BigInteger n : new BigInteger[] {LEAST_N.add(ONE.shiftLeft(2)), GREATEST_N, N}) {
            BigInteger even = n.subtract(ONE).mod(THREE).signum() != 0 ? n.subtract(ONE) : n.add(ONE);
            PartsAccumulator x = new PartsAccumulator();
            due("modulus(" + even + "), no multiple of 3", give(x, even), false);
            due("size(2)", x.size(2), NONE);
        }
        due("modulus(2^100)", new PartsAccumulator().modulus(1L << 36, 0), false);
        due("modulus(2^127)", new PartsAccumulator().modulus(Long.MIN_VALUE, 0), false);
        due("modulus(2^128 - 2)", new PartsAccumulator().modulus(-1, -2), false);
        due("an odd upper word does not make it odd", new PartsAccumulator().modulus((1L << 36) + 1, 0), false);
    }

    /** Odd multiples of 3, whose words need not be multiples of 3. */
    private static void modulusMultipleOfThree() {
        due("modulus(2^128 - 1)", new PartsAccumulator().modulus(-1, -1), false);
        due("modulus(2^100 + 5)", new PartsAccumulator().modulus(1L << 36, 5), false);
        due("modulus(2^127 + 1)", new PartsAccumulator().modulus(Long.MIN_VALUE, 1), false);
        for (int i = 0; i < 60; i++) {
            BigInteger threefold = LEAST_N.shiftLeft(i % 28).add(N.shiftRight(i + 30)).setBit(0);
            while (threefold.mod(THREE).signum() != 0) {
                threefold = threefold.add(BigInteger.TWO);
            }
            due("modulus(" + threefold + ")", give(new PartsAccumulator(), threefold), false);
            due("two more", give(new PartsAccumulator(), threefold.add(BigInteger.TWO)), true);
            due("four more", give(new PartsAccumulator(), threefold.add(BigInteger.valueOf(4))), true);
        }
    }

    private static void modulusTooSmall() {
        due("modulus(2^100 - 3), odd and no multiple of 3", new PartsAccumulator().modulus((1L << 36) - 1, -3), false);
        for (int bit = 1; bit < 100; bit++) {
            for (int i = 1; i <= 5; i += 2) {
                BigInteger small = ONE.shiftLeft(bit).add(BigInteger.valueOf(i));
                due("modulus(2^" + bit + " + " + i + ")", give(new PartsAccumulator(), small), false);
            }
        }
        for (int i = 1; i < 40; i++) {
            BigInteger small = ONE.shiftLeft(100).subtract(BigInteger.valueOf(i));
            due("modulus(2^100 - " + i + ")", give(new PartsAccumulator(), small), false);
        }
        for (long lower : new long[] {0, 1, 5, -1, -3, Long.MAX_VALUE, Long.MIN_VALUE + 1}) {
            due("modulus(0, " + lower + ")", new PartsAccumulator().modulus(0, lower), false);
        }
    }

    private static void prime() {
        PartsAccumulator x = new PartsAccumulator(), y = withPresent(5);
        long[] serials = {0, 1, 5, TWIN, OTHER_TWIN, LAST_SERIAL};
        int[] primes = {1533390917, 1494917917, Model.primeOf(5), 1667257819, 1667257819, 1542615743};
        for (int i = 0; i < serials.length; i++) {
            due("prime(" + serials[i] + ") without a modulus", x.prime(serials[i]), primes[i]);
            due("prime(" + serials[i] + ") with a modulus", y.prime(serials[i]), primes[i]);
        }
        due("prime asks for no modulus, and gives none", x.size(2), NONE);
    }

    private static void primeOfNone() {
        PartsAccumulator x = new PartsAccumulator(), y = withPresent(5);
        for (long s : NO_SERIALS) {
            due("prime(" + s + ") without a modulus", x.prime(s), BAD);
            due("prime(" + s + ") with a modulus", y.prime(s), BAD);
        }
    }

    private static void add() {
        PartsAccumulator x = withModulus(N);
        due("add(7)", x.add(7), 1);
        due("add(LAST_SERIAL)", x.add(LAST_SERIAL), 2);
        due("add(0)", x.add(0), 3);
        due("state(7)", x.state(7), 2);
        dueSizes(x, 0, 3, 0);
        dueAccumulator(x, 0, THREE);
        due("close()", x.close(), 1);
        due("remove(7)", x.remove(7), 2);
        due("add(7), present but not pending", x.add(7), 3);
        due("state(7)", x.state(7), 3);
    }

    private static void addFirstAndTenth() {
        PartsAccumulator x = withModulus(N);
        due("add(30), the first", x.add(30), 1);
        for (int i = 1; i < 9; i++) {
            due("add(" + (30 - i) + ")", x.add(30 - i), i + 1);
        }
        due("add(1), the tenth", x.add(1), 10);
        due("state(1)", x.state(1), 2);
        due("state(30)", x.state(30), 2);
    }

    private static void addPending() {
        PartsAccumulator x = withPending(7, 8, 9);
        for (long s = 7; s <= 9; s++) {
            due("add(" + s + ") again", x.add(s), PRESENT);
        }
        due("size(1)", x.size(1), 3);
        due("close()", x.close(), 1);
        due("add(7), pending and present", x.add(7), PRESENT);
        due("remove(7)", x.remove(7), 2);
        due("add(7), present, but pending no more", x.add(7), 3);
        due("add(7) again", x.add(7), PRESENT);
    }

    private static void addTwin() {
        long[][] twins = {{TWIN, OTHER_TWIN}, {2572, 10820}, {9264, 14484}};
        for (long[] pair : twins) {
            dueClash(pair[0], pair[1]);
            dueClash(pair[1], pair[0]);
        }
    }

    private static void dueClash(long one, long other) {
        PartsAccumulator x = withPending(5, one, 6);
        due("add(" + other + ")", x.add(other), CLASH);
        due("state(" + other + ")", x.state(other), 0);
        due("size(1)", x.size(1), 3);
        due("close()", x.close(), 1);
        due("remove(" + one + ")", x.remove(one), 2);
        due("add(" + other + "): its twin is present, but not pending", x.add(other), 3);
        due("add(" + one + ")", x.add(one), CLASH);
        due("close()", x.close(), 2);
        due("state(" + one + ")", x.state(one), 0);
        due("state(" + other + ")", x.state(other), 3);
    }

    private static void addWhenFull() {
        PartsAccumulator x = withPending(range(1, 10));
        due("add(11)", x.add(11), FULL);
        due("add(0)", x.add(0), FULL);
        due("add(LAST_SERIAL)", x.add(LAST_SERIAL), FULL);
        due("size(1)", x.size(1), 10);
        due("state(11)", x.state(11), 0);
        for (long s = 1; s <= 10; s++) {
            due("state(" + s + ")", x.state(s), 2);
        }
        due("remove(4)", x.remove(4), 9);
        due("add(11)", x.add(11), 10);
        due("add(4)", x.add(4), FULL);
        due("close()", x.close(), 1);
        due("add(4): the ten stay pending", x.add(4), FULL);
    }

    private static void addWhenFullOtherwise() {
        PartsAccumulator x = withPending(TWIN, 1, 2, 3, 4, 5, 6, 7, 8, 9);
        due("add(519)", x.add(TWIN), PRESENT);
        due("add(9)", x.add(9), PRESENT);
        due("add(802)", x.add(OTHER_TWIN), CLASH);
        due("add(-1)", x.add(-1), BAD);
        due("add(10)", x.add(10), FULL);
        due("size(1)", x.size(1), 10);
    }

    private static void remove() {
        PartsAccumulator x = withPresent(3, 1, 2);
        due("remove(1)", x.remove(1), 2);
        due("state(1): still present", x.state(1), 1);
        due("state(2)", x.state(2), 3);
        due("state(3)", x.state(3), 3);
        dueAccumulator(x, 1, accumulated(1, 2, 3));
        due("close()", x.close(), 2);
        due("state(1)", x.state(1), 0);
        dueAccumulator(x, 2, accumulated(2, 3));
    }

    /** In rising order, in falling order, and from the middle. */
    private static void removeFromTenToNone() {
        long[][] orders = {range(1, 10), {10, 9, 8, 7, 6, 5, 4, 3, 2, 1}, {5, 6, 4, 7, 3, 8, 2, 9, 1, 10}};
        for (long[] order : orders) {
            PartsAccumulator x = withPending(range(1, 10));
            for (int i = 0; i < 10; i++) {
                due("remove(" + order[i] + ")", x.remove(order[i]), 9 - i);
                for (int j = 0; j < 10; j++) {
                    due("state(" + order[j] + ")", x.state(order[j]), j <= i ? 0 : 2);
                }
            }
            due("remove(1) of none", x.remove(1), ABSENT);
            due("add(1)", x.add(1), 1);
        }
    }

    private static void removeOfNone() {
        PartsAccumulator x = withModulus(N);
        due("remove(5) at first", x.remove(5), ABSENT);
        due("add(519)", x.add(TWIN), 1);
        due("remove(802): only its twin is pending", x.remove(OTHER_TWIN), ABSENT);
        due("remove(5)", x.remove(5), ABSENT);
        due("close()", x.close(), 1);
        due("remove(519)", x.remove(TWIN), 0);
        due("remove(519) again, present but pending no more", x.remove(TWIN), ABSENT);
        due("size(1)", x.size(1), 0);
        due("size(0)", x.size(0), 1);
    }

    private static void close() {
        PartsAccumulator x = withPending(5, 6);
        due("close()", x.close(), 1);
        dueSizes(x, 2, 2, 1);
        dueAccumulator(x, 1, accumulated(5, 6));
        due("add(7)", x.add(7), 3);
        due("close()", x.close(), 2);
        dueSizes(x, 3, 3, 2);
        dueAccumulator(x, 2, accumulated(5, 6, 7));
        dueAccumulator(x, 1, accumulated(5, 6));
        PartsAccumulator ten = withPending(range(1, 10));
        due("close() with ten", ten.close(), 1);
        dueSizes(ten, 10, 10, 1);
        dueAccumulator(ten, 1, accumulated(range(1, 10)));
    }

    private static void closeKeepsPending() {
        PartsAccumulator x = withPresent(5, 6);
        due("state(5)", x.state(5), 3);
        due("size(1)", x.size(1), 2);
        due("close()", x.close(), 2);
        due("state(5) an epoch later", x.state(5), 3);
        due("remove(5): present in an epoch that is closed", x.remove(5), 1);
        dueAccumulator(x, 1, accumulated(5, 6));
        dueAccumulator(x, 2, accumulated(5, 6));
        due("state(5)", x.state(5), 1);
        due("close()", x.close(), 3);
        due("state(5)", x.state(5), 0);
    }

    private static void closeOfNone() {
        PartsAccumulator x = withModulus(N);
        due("close() of none", x.close(), 1);
        dueSizes(x, 0, 0, 1);
        due("close() of none", x.close(), 2);
        dueAccumulator(x, 2, THREE);
        due("add(5)", x.add(5), 1);
        due("close()", x.close(), 3);
        due("close() without a change", x.close(), 4);
        dueAccumulator(x, 3, accumulated(5));
        dueAccumulator(x, 4, accumulated(5));
        due("remove(5)", x.remove(5), 0);
        due("close() of none again", x.close(), 5);
        dueAccumulator(x, 5, THREE);
    }

    private static void closeWhenFull() {
        PartsAccumulator x = withPending(5);
        closeUntil(x, 15);
        due("close() when NOW is 15", x.close(), 16);
        due("add(6)", x.add(6), 2);
        due("remove(5)", x.remove(5), 1);
        for (int i = 0; i < 3; i++) {
            due("close() when NOW is 16", x.close(), FULL);
            dueSizes(x, 1, 1, 16);
            due("state(6): pending, not present", x.state(6), 2);
            due("state(5): present, not pending", x.state(5), 1);
            dueAccumulator(x, 16, accumulated(5));
            dueAccumulator(x, 17, ZERO);
        }
    }

    private static void sizePresent() {
        PartsAccumulator x = withModulus(N);
        due("size(0) of none", x.size(0), 0);
        addAll(x, range(1, 10));
        due("size(0): pending ones are not present", x.size(0), 0);
        due("close()", x.close(), 1);
        due("size(0) of ten", x.size(0), 10);
        removeAll(x, range(1, 10));
        due("size(0): still present", x.size(0), 10);
        due("close()", x.close(), 2);
        due("size(0) of none", x.size(0), 0);
    }

    private static void sizePending() {
        PartsAccumulator x = withModulus(N);
        due("size(1) of none", x.size(1), 0);
        for (int i = 1; i <= 10; i++) {
            due("add(" + i + ")", x.add(i), i);
            due("size(1)", x.size(1), i);
        }
        due("close()", x.close(), 1);
        due("size(1) after close", x.size(1), 10);
        due("remove(1)", x.remove(1), 9);
        due("size(1)", x.size(1), 9);
    }

    private static void sizeNow() {
        PartsAccumulator x = withModulus(N);
        due("size(2) at first", x.size(2), 0);
        for (int e = 1; e <= 16; e++) {
            due("close()", x.close(), e);
            due("size(2)", x.size(2), e);
        }
    }

    private static void sizeOfNone() {
        PartsAccumulator x = withPresent(1, 2, 3);
        for (int k : new int[] {3, -1, 4, 256, 1 << 16, Integer.MAX_VALUE, Integer.MIN_VALUE}) {
            due("size(" + k + ")", x.size(k), BAD);
        }
        dueSizes(x, 3, 3, 1);
    }

    private static void state() {
        PartsAccumulator x = withPresent(TWIN, 4);
        due("remove(519)", x.remove(TWIN), 1);
        due("add(802)", x.add(OTHER_TWIN), 2);
        due("state: neither", x.state(9), 0);
        due("state: present", x.state(TWIN), 1);
        due("state: pending", x.state(OTHER_TWIN), 2);
        due("state: both", x.state(4), 3);
        due("close()", x.close(), 2);
        due("state: present an epoch ago", x.state(TWIN), 0);
        due("state: both", x.state(OTHER_TWIN), 3);
    }

    private static void accumulator() {
        PartsAccumulator x = withPresent(5, 6);
        due("add(7)", x.add(7), 3);
        dueAccumulator(x, 0, THREE);
        dueAccumulator(x, 1, accumulated(5, 6));
        due("close()", x.close(), 2);
        dueAccumulator(x, 2, accumulated(5, 6, 7));
        dueAccumulator(x, 1, accumulated(5, 6));
        PartsAccumulator y = withPending(range(1, 10));
        closeUntil(y, 16);
        dueAccumulator(y, 16, accumulated(range(1, 10)));
        dueAccumulator(y, 15, accumulated(range(1, 10)));
    }

    private static void accumulatorOfNone() {
        for (int now : new int[] {0, 1, 15, 16}) {
            PartsAccumulator x = withPending(5);
            closeUntil(x, now);
            dueAccumulator(x, now + 1, ZERO);
            for (int e : NEVER_EPOCHS) {
                dueAccumulator(x, e, ZERO);
            }
        }
    }

    private static void noteFromOneOn() {
        PartsAccumulator x = withPresent(5);
        due("note(1, 0, 0)", x.note(1, 0, 0), 1);
        for (int what = 0; what < 4; what++) {
            due("note(0, " + what + ", 0)", x.note(0, what, 0), BAD);
            due("note(2, " + what + ", 0)", x.note(2, what, 0), BAD);
            due("note(-1, " + what + ", 0)", x.note(-1, what, 0), BAD);
            due("note(0, " + what + ", 0) at first", withModulus(N).note(0, what, 0), BAD);
        }
        removeAll(x, 5);
        closeUntil(x, 16);
        due("note(16, 0, 0)", x.note(16, 0, 0), 0);
        due("note(16, 1, 0)", x.note(16, 1, 0), 0);
        due("note(2, 1, 0)", x.note(2, 1, 0), 1);
        due("note(17, 0, 0)", x.note(17, 0, 0), BAD);
    }

    /** The count is told whatever i is. */
    private static void noteCounts() {
        PartsAccumulator x = withPresent(1, 2, 3);
        due("remove(1)", x.remove(1), 2);
        due("add(4)", x.add(4), 3);
        due("add(5)", x.add(5), 4);
        for (int i : new int[] {0, 1, 3, 99, -1, Integer.MAX_VALUE, Integer.MIN_VALUE}) {
            due("note(1, 0, " + i + ")", x.note(1, 0, i), 3);
            due("note(1, 1, " + i + ")", x.note(1, 1, i), 0);
        }
        due("close()", x.close(), 2);
        for (int i : new int[] {0, 1, 3, 99, -1, Integer.MAX_VALUE, Integer.MIN_VALUE}) {
            due("note(2, 0, " + i + ")", x.note(2, 0, i), 2);
            due("note(2, 1, " + i + ")", x.note(2, 1, i), 1);
        }
    }

    /** Serials that rise otherwise for who looks at 32 of their bits, or at the order in which they came. */
    private static void notePrimes() {
        long[] rising = {0, 7, (1L << 31) - 1, 1L << 31, (1L << 32) - 1, 1L << 32, (1L << 32) + 7, 1L << 39, LAST_SERIAL};
        long[] came = {rising[5], rising[2], rising[8], rising[0], rising[6], rising[3], rising[7], rising[1], rising[4]};
        PartsAccumulator x = withPresent(came);
        dueNote(x, 1, rising, new long[] {});
        removeAll(x, came[3], came[0], came[8], came[1], came[7], came[2], came[6], came[4], came[5]);
        due("add(9)", x.add(9), 1);
        due("add(8)", x.add(8), 2);
        dueNote(x, 1, rising, new long[] {});
        due("close()", x.close(), 2);
        dueNote(x, 2, new long[] {8, 9}, rising);
        dueNote(x, 1, rising, new long[] {});
    }

    private static void dueNote(PartsAccumulator x, int epoch, long[] added, long[] removed) {
        long[][] told = {added, removed};
        for (int kind = 0; kind < 2; kind++) {
            due("note(" + epoch + ", " + kind + ", 0)", x.note(epoch, kind, 0), told[kind].length);
            for (int i = 0; i < told[kind].length; i++) {
                String call = "note(" + epoch + ", " + (kind + 2) + ", " + i + ")";
                due(call, x.note(epoch, kind + 2, i), Model.primeOf(told[kind][i]));
            }
            due("note behind the last", x.note(epoch, kind + 2, told[kind].length), BAD);
            due("note before the first", x.note(epoch, kind + 2, -1), BAD);
        }
    }

    private static void noteOfTen() {
        PartsAccumulator x = withPresent(range(1, 10));
        removeAll(x, range(1, 10));
        addAll(x, range(11, 10));
        due("close()", x.close(), 2);
        dueNote(x, 1, range(1, 10), new long[] {});
        dueNote(x, 2, range(11, 10), range(1, 10));
        removeAll(x, range(11, 10));
        due("close()", x.close(), 3);
        dueNote(x, 3, new long[] {}, range(11, 10));
    }

    private static void noteOfTwins() {
        PartsAccumulator x = withPresent(TWIN, 6);
        due("remove(519)", x.remove(TWIN), 1);
        due("add(802)", x.add(OTHER_TWIN), 2);
        due("close()", x.close(), 2);
        dueNote(x, 2, new long[] {OTHER_TWIN}, new long[] {TWIN});
        dueAccumulator(x, 2, accumulated(TWIN, 6));
    }

    private static void noteOfOther() {
        PartsAccumulator x = withPresent(5);
        for (int what : new int[] {4, 5, -1, -2, 256, 1 << 16, Integer.MAX_VALUE, Integer.MIN_VALUE}) {
            due("note(1, " + what + ", 0)", x.note(1, what, 0), BAD);
        }
    }

    private static void noteOfNoSerial() {
        PartsAccumulator x = withPresent(5, 6);
        due("note(1, 2, 1)", x.note(1, 2, 1), Model.primeOf(6));
        due("note(1, 2, 2)", x.note(1, 2, 2), BAD);
        due("note(1, 3, 0) of none", x.note(1, 3, 0), BAD);
        removeAll(x, 5, 6);
        due("close()", x.close(), 2);
        due("note(2, 2, 0) of none", x.note(2, 2, 0), BAD);
        due("note(2, 3, 1)", x.note(2, 3, 1), Model.primeOf(6));
        due("note(2, 3, 2)", x.note(2, 3, 2), BAD);
        for (int i : FAR_OFF) {
            due("note(1, 2, " + i + ")", x.note(1, 2, i), BAD);
            due("note(2, 3, " + i + ")", x.note(2, 3, i), BAD);
        }
    }
}
