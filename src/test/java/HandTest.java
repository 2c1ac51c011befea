import java.math.BigInteger;

/** Promises 11 to 19, sentence by sentence: ordinary inputs, the boundary cases, and wrong inputs. */
public final class HandTest extends Case {
    /** A prime modulus: its order is no secret, so that every number has a root that can be told. */
    private static final BigInteger PRIME_N = ONE.shiftLeft(107).subtract(ONE);

    public static void main(String[] args) {
        sentence("11: The upper or lower 64 bits of the issued witness of a serial now", HandTest::witness);
        sentence("11: 0 when it is not present now", HandTest::witnessOfAbsent);
        sentence("11: 0 when it is none", HandTest::witnessOfNone);
        sentence("12: The hand gets the issued witness .., the factor 0", HandTest::issue);
        sentence("12: how many other serials are present", HandTest::issueCounts);
        sentence("12: ABSENT when it is not present now", HandTest::issueOfAbsent);
        sentence("13: The hand gets a number and a factor: true", HandTest::hold);
        sentence("13: false, refused, without a modulus", HandTest::holdWithoutModulus);
        sentence("13: false, refused, when it is not below N", HandTest::holdOfTooMuch);
        sentence("13: false, refused, when the factor is below 0", HandTest::holdOfFactorBelowZero);
        sentence("14: The upper or lower 64 bits of the number in the hand", HandTest::hand);
        sentence("15: The factor", HandTest::factor);
        sentence("16: Whether the hand has a witness: 1", HandTest::checkOne);
        sentence("16: Whether the hand has a witness: 0", HandTest::checkZero);
        sentence("16, 19: 0 for one wrong bit", HandTest::checkOfOneBit);
        sentence("16: a witness of a serial that is not present", HandTest::checkOfAbsent);
        sentence("17: Moves the witness .. from an epoch to NOW: how many epochs", HandTest::advance);
        sentence("17: how many epochs: none", HandTest::advanceByNone);
        sentence("17: how many epochs: fifteen", HandTest::advanceThroughAllEpochs);
        sentence("17: W ^ Q, Q of those that were added in e: none, one, nine", HandTest::advanceOverAdded);
        sentence("17: Y .. of those that were removed: none, one, nine", HandTest::advanceOverRemoved);
        sentence("17: added first, then removed", HandTest::advanceOverTwins);
        sentence("17: b the least number not below 0 .. W ^ b times the inverse", HandTest::advanceOfAnotherWitness);
        sentence("17: ABSENT when the serial is not present in that epoch", HandTest::advanceOfAbsent);
        sentence("17: ABSENT .. or in one behind it", HandTest::advanceOfAbsentBehind);
        sentence("17: WRONG when the hand has no witness for that epoch", HandTest::advanceOfWrong);
        sentence("17: ABSENT goes before WRONG", HandTest::advanceAbsentBeforeWrong);
        sentence("18: The hand gets a proof that a serial .. is not present now", HandTest::exclude);
        sentence("18: the least number above 0: with none and with ten present", HandTest::excludeFactors);
        sentence("18: the inverse of 3 ^ c", HandTest::excludeWithOtherModuli);
        sentence("18: PRESENT when it is present now", HandTest::excludePresent);
        sentence("18: CLASH when another one has its prime", HandTest::excludeTwin);
        sentence("19: 1 if A(e) ^ FACTOR times the number ^ p is 3", HandTest::checkExcludeOne);
        sentence("19: else 0", HandTest::checkExcludeZero);
        sentence("19: the factor 0, and the greatest", HandTest::checkExcludeFactors);
        DUES.end();
    }

    /** The number whose power with the prime of a serial is x, modulo PRIME_N. */
    private static BigInteger root(BigInteger x, long serial) {
        return x.modPow(primeOf(serial).modInverse(PRIME_N.subtract(ONE)), PRIME_N);
    }

    private static void witness() {
        PartsAccumulator x = withPresent(5, 6, 7);
        dueWitness(x, 6, accumulated(5, 7));
        dueHand("after witness", x, ZERO, 0);
        due("remove(6)", x.remove(6), 2);
        dueWitness(x, 6, accumulated(5, 7));
        due("add(8)", x.add(8), 3);
        due("close()", x.close(), 2);
        dueWitness(x, 7, accumulated(5, 8));
        dueWitness(withPresent(9), 9, THREE);
        dueWitness(withPresent(range(1, 10)), 1, accumulated(range(2, 9)));
    }

    private static void witnessOfAbsent() {
        PartsAccumulator x = withPresent(TWIN, 6);
        dueWitness(x, 9, ZERO);
        dueWitness(x, OTHER_TWIN, ZERO);
        due("add(8)", x.add(8), 3);
        dueWitness(x, 8, ZERO);
        due("remove(6)", x.remove(6), 2);
        due("close()", x.close(), 2);
        dueWitness(x, 6, ZERO);
        dueWitness(x, 8, accumulated(TWIN));
        dueWitness(withModulus(N), 5, ZERO);
    }

    private static void witnessOfNone() {
        PartsAccumulator x = withPresent(5, TWIN, 0, LAST_SERIAL);
        for (long s : NO_SERIALS) {
            dueWitness(x, s, ZERO);
        }
    }

    private static void issue() {
        PartsAccumulator x = withPresent(5, TWIN, 7);
        hold(x, BigInteger.TEN, 12, true);
        due("issue(5)", x.issue(5), 2);
        dueHand("after issue", x, accumulated(TWIN, 7), 0);
        due("add(8)", x.add(8), 4);
        due("issue(5): 8 is only pending", x.issue(5), 2);
        dueHand("after issue", x, accumulated(TWIN, 7), 0);
        due("close()", x.close(), 2);
        dueHand("after close", x, accumulated(TWIN, 7), 0);
        due("issue(5)", x.issue(5), 3);
        dueHand("after issue", x, accumulated(TWIN, 7, 8), 0);
        due("remove(5)", x.remove(5), 3);
        due("issue(5): still present", x.issue(5), 3);
    }

    private static void issueCounts() {
        PartsAccumulator one = withPresent(9);
        due("issue(9), the only one", one.issue(9), 0);
        dueHand("after issue", one, THREE, 0);
        PartsAccumulator ten = withPresent(range(1, 10));
        for (long s = 1; s <= 10; s++) {
            due("issue(" + s + "), one of ten", ten.issue(s), 9);
            dueHand("after issue", ten, powerOfThree(product(range(1, 10)).divide(primeOf(s))), 0);
        }
    }

    private static void issueOfAbsent() {
        PartsAccumulator x = withModulus(N);
        hold(x, BigInteger.TEN, 12, true);
        due("issue(5) in epoch 0", x.issue(5), ABSENT);
        addAll(x, TWIN, 5);
        due("issue(5), only pending", x.issue(5), ABSENT);
        due("close()", x.close(), 1);
        due("issue(8)", x.issue(8), ABSENT);
        due("issue(802): only its twin is present", x.issue(OTHER_TWIN), ABSENT);
        due("remove(5)", x.remove(5), 1);
        due("close()", x.close(), 2);
        due("issue(5), present an epoch ago", x.issue(5), ABSENT);
        dueHand("after refusals", x, BigInteger.TEN, 12);
    }

    private static void hold() {
        for (BigInteger n : new BigInteger[] {N, LEAST_N, GREATEST_N}) {
            PartsAccumulator x = withModulus(n);
            BigInteger[] numbers = {
                ZERO, ONE, ONE.shiftLeft(63), ONE.shiftLeft(64).subtract(ONE), ONE.shiftLeft(64),
                ONE.shiftLeft(99), ONE.shiftLeft(100), n.subtract(ONE.shiftLeft(64)), n.subtract(ONE)
            };
            for (BigInteger number : numbers) {
                for (int factor : new int[] {0, 1, Integer.MAX_VALUE}) {
                    hold(x, number, factor, true);
                    dueHand("after hold", x, number, factor);
                }
            }
        }
    }

    private static void holdWithoutModulus() {
        PartsAccumulator x = new PartsAccumulator();
        due("hold(0, 0, 0)", x.hold(0, 0, 0), false);
        due("hold(0, 1, 1)", x.hold(0, 1, 1), false);
        due("hold(-1, -1, -1)", x.hold(-1, -1, -1), false);
        due("modulus(N)", give(x, N), true);
        dueHand("at first", x, ZERO, 0);
    }

    private static void holdOfTooMuch() {
        for (BigInteger n : new BigInteger[] {N, LEAST_N, GREATEST_N}) {
            PartsAccumulator x = withModulus(n);
            hold(x, n.subtract(ONE), 7, true);
            hold(x, n, 0, false);
            hold(x, n.add(ONE), 0, false);
            hold(x, ONE.shiftLeft(128).subtract(ONE), 0, false);
            dueHand("after refusals", x, n.subtract(ONE), 7);
        }
        PartsAccumulator x = withModulus(N);
        long upper = Model.word(N, true), lower = Model.word(N, false);
        due("hold(upper, -1): the lower word without a sign", x.hold(upper, -1, 0), false);
        due("hold(upper, lower + 1)", x.hold(upper, lower + 1, 0), false);
        due("hold(upper + 1, 0)", x.hold(upper + 1, 0, 0), false);
        due("hold(-1, 0): the upper word without a sign", x.hold(-1, 0, 0), false);
        due("hold(2^63 - 1, -1): less than N without a sign", x.hold(Long.MAX_VALUE, -1, 0), true);
        PartsAccumulator small = withModulus(LEAST_N);
        due("hold(-1, 0) modulo 2^100 + 1", small.hold(-1, 0, 0), false);
        due("hold(2^63, 0) modulo 2^100 + 1", small.hold(Long.MIN_VALUE, 0, 0), false);
        due("hold(2^36, -1) modulo 2^100 + 1", small.hold(1L << 36, -1, 0), false);
        due("hold(2^36, 1) modulo 2^100 + 1", small.hold(1L << 36, 1, 0), false);
        due("hold(2^36, 0) modulo 2^100 + 1", small.hold(1L << 36, 0, 0), true);
        due("hold(2^36 - 1, -1) modulo 2^100 + 1", small.hold((1L << 36) - 1, -1, 0), true);
    }

    private static void holdOfFactorBelowZero() {
        PartsAccumulator x = withModulus(N);
        hold(x, ONE, 7, true);
        hold(x, BigInteger.TWO, -1, false);
        hold(x, BigInteger.TWO, Integer.MIN_VALUE, false);
        hold(x, N, -1, false);
        dueHand("after refusals", x, ONE, 7);
        hold(x, BigInteger.TWO, 0, true);
        dueHand("after hold", x, BigInteger.TWO, 0);
    }

    private static void hand() {
        PartsAccumulator x = withPresent(5, 6);
        due("hand(true) at first", x.hand(true), 0);
        due("hand(false) at first", x.hand(false), 0);
        due("hold(1, -2, 0)", x.hold(1, -2, 0), true);
        due("hand(true)", x.hand(true), 1);
        due("hand(false)", x.hand(false), -2);
        due("hold(2^63, 2^63, 0)", x.hold(Long.MIN_VALUE, Long.MIN_VALUE, 0), true);
        due("hand(true)", x.hand(true), Long.MIN_VALUE);
        due("hand(false)", x.hand(false), Long.MIN_VALUE);
        due("hold(2^63 - 1, 2^63 - 1, 0)", x.hold(Long.MAX_VALUE, Long.MAX_VALUE, 0), true);
        due("hand(true)", x.hand(true), Long.MAX_VALUE);
        due("hand(false)", x.hand(false), Long.MAX_VALUE);
    }

    private static void factor() {
        PartsAccumulator x = withPresent(5, 6);
        due("factor() at first", x.factor(), 0);
        due("hold(0, 9, 2147483647)", x.hold(0, 9, Integer.MAX_VALUE), true);
        due("factor()", x.factor(), Integer.MAX_VALUE);
        int a = product(5, 6).modInverse(primeOf(7)).intValueExact();
        due("exclude(7)", x.exclude(7), a);
        due("factor()", x.factor(), a);
        due("issue(5)", x.issue(5), 1);
        due("factor() after issue", x.factor(), 0);
    }

    private static void checkOne() {
        PartsAccumulator x = withPresent(5, TWIN);
        due("issue(519)", x.issue(TWIN), 1);
        due("check(519, 1)", x.check(TWIN, 1), 1);
        hold(x, accumulated(5), Integer.MAX_VALUE, true);
        due("check(519, 1), whatever the factor", x.check(TWIN, 1), 1);
        dueHand("after check", x, accumulated(5), Integer.MAX_VALUE);
        due("add(6)", x.add(6), 3);
        due("close()", x.close(), 2);
        due("check(519, 1) for an epoch of old", x.check(TWIN, 1), 1);
        due("check(519, 2)", x.check(TWIN, 2), 0);
        closeUntil(x, 16);
        due("issue(519)", x.issue(TWIN), 2);
        due("check(519, 16)", x.check(TWIN, 16), 1);
        due("check(519, 2): the same are present", x.check(TWIN, 2), 1);
        PartsAccumulator one = withPresent(5);
        due("issue(5), the only one", one.issue(5), 0);
        due("check(5, 1)", one.check(5, 1), 1);
    }

    private static void checkZero() {
        PartsAccumulator x = withPresent(5, TWIN);
        due("check(5, 1) with 0 in the hand", x.check(5, 1), 0);
        BigInteger[] numbers = {
            ZERO, ONE, N.subtract(ONE), accumulated(5, TWIN), accumulated(5).add(ONE), accumulated(5).subtract(ONE),
            N.subtract(accumulated(5)), accumulated(TWIN)
        };
        for (BigInteger number : numbers) {
            hold(x, number, 0, true);
            due("check(519, 1) with " + number, x.check(TWIN, 1), 0);
            due("check(519, 0) with " + number, x.check(TWIN, 0), 0);
        }
        due("issue(519)", x.issue(TWIN), 1);
        due("check(5, 1)", x.check(5, 1), 0);
        due("check(519, 0)", x.check(TWIN, 0), 0);
    }

    /** The power is compared in all its bits. */
    private static void checkOfOneBit() {
        PartsAccumulator x = withModulus(PRIME_N);
        for (int bit = 0; bit < 107; bit++) {
            hold(x, root(THREE.flipBit(bit), 20), 1, true);
            due("check(20, 0), bit " + bit + " of the power being wrong", x.check(20, 0), 0);
            hold(x, root(THREE.flipBit(bit), 20), 0, true);
            due("checkExclude(20, 0), bit " + bit + " of the product being wrong", x.checkExclude(20, 0), 0);
        }
        hold(x, root(THREE, 20), 0, true);
        due("check(20, 0)", x.check(20, 0), 1);
        due("checkExclude(20, 0)", x.checkExclude(20, 0), 1);
    }

    private static void checkOfAbsent() {
        PartsAccumulator x = withPresent(TWIN, 5);
        due("issue(519)", x.issue(TWIN), 1);
        due("check(802, 1): its twin is present", x.check(OTHER_TWIN, 1), 1);
        PartsAccumulator y = withModulus(PRIME_N);
        hold(y, root(THREE, 20), 0, true);
        due("check(20, 0): a root of 3, in epoch 0", y.check(20, 0), 1);
        due("check(21, 0)", y.check(21, 0), 0);
        due("advance(20, 0): not present", y.advance(20, 0), ABSENT);
    }

    private static void advance() {
        PartsAccumulator x = withPresent(10, 20, 30);
        BigInteger old = accumulated(10, 30);
        due("add(40)", x.add(40), 4);
        due("close()", x.close(), 2);
        hold(x, old, 5, true);
        due("advance(20, 1): one added", x.advance(20, 1), 1);
        dueHand("after advance, the factor as it was", x, accumulated(10, 30, 40), 5);
        due("remove(10)", x.remove(10), 3);
        due("close()", x.close(), 3);
        due("advance(20, 2): one removed", x.advance(20, 2), 1);
        dueHand("after advance", x, accumulated(30, 40), 5);
        due("remove(30)", x.remove(30), 2);
        due("remove(40)", x.remove(40), 1);
        due("add(50)", x.add(50), 2);
        due("add(60)", x.add(60), 3);
        due("close()", x.close(), 4);
        due("advance(20, 3): some of both", x.advance(20, 3), 1);
        dueHand("after advance", x, accumulated(50, 60), 5);
        hold(x, old, 0, true);
        due("advance(20, 1): three epochs", x.advance(20, 1), 3);
        dueHand("after advance", x, accumulated(50, 60), 0);
        due("check(20, 4)", x.check(20, 4), 1);
        dueSizes(x, 3, 3, 4);
    }

    private static void advanceByNone() {
        PartsAccumulator x = withPresent(10, 20);
        hold(x, accumulated(10), 8, true);
        due("advance(20, 1), from NOW", x.advance(20, 1), 0);
        dueHand("after advance", x, accumulated(10), 8);
        due("remove(20): pending no more, but present", x.remove(20), 1);
        due("advance(20, 1)", x.advance(20, 1), 0);
        dueHand("after advance", x, accumulated(10), 8);
        closeUntil(x, 16);
        due("issue(10) in epoch 16", x.issue(10), 0);
        due("advance(10, 16)", x.advance(10, 16), 0);
        dueHand("after advance", x, THREE, 0);
    }

    /** Nine go and nine others come in each epoch, as many as there can be. */
    private static void advanceThroughAllEpochs() {
        PartsAccumulator x = withModulus(GREATEST_N);
        Model model = new Model();
        model.modulus(-1, -3);
        due("add(1000)", x.add(1000), model.add(1000));
        for (int e = 1; e <= 16; e++) {
            for (int i = 0; i < 9; i++) {
                x.remove(10 * e + i - 10);
                model.remove(10 * e + i - 10);
                due("add", x.add(10 * e + i), model.add(10 * e + i));
            }
            due("close()", x.close(), model.close());
            if (e == 1) {
                due("issue(1000)", x.issue(1000), model.issue(1000));
            }
        }
        due("advance(1000, 1)", x.advance(1000, 1), 15);
        dueHand("after advance", x, model.issued(1000), 0);
    }

    private static void advanceOverAdded() {
        for (int count : new int[] {0, 1, 9}) {
            PartsAccumulator x = withPresent(20);
            due("issue(20)", x.issue(20), 0);
            for (int i = 0; i < count; i++) {
                due("add(" + (30 + i) + ")", x.add(30 + i), i + 2);
            }
            due("close()", x.close(), 2);
            due("advance(20, 1) over " + count + " added", x.advance(20, 1), 1);
            dueHand("after advance", x, accumulated(range(30, count)), 0);
        }
    }

    private static void advanceOverRemoved() {
        for (int count : new int[] {0, 1, 9}) {
            PartsAccumulator x = withPending(20);
            for (int i = 0; i < 9; i++) {
                due("add(" + (30 + i) + ")", x.add(30 + i), i + 2);
            }
            due("close()", x.close(), 1);
            due("issue(20)", x.issue(20), 9);
            for (int i = 0; i < count; i++) {
                due("remove(" + (30 + i) + ")", x.remove(30 + i), 9 - i);
            }
            due("close()", x.close(), 2);
            due("advance(20, 1) over " + count + " removed", x.advance(20, 1), 1);
            dueHand("after advance", x, accumulated(range(30 + count, 9 - count)), 0);
        }
    }

    /** One goes and another one with the same prime comes: the accumulator stays, and so does the issued witness. */
    private static void advanceOverTwins() {
        PartsAccumulator x = withPresent(20, TWIN);
        due("issue(20)", x.issue(20), 1);
        due("remove(519)", x.remove(TWIN), 1);
        due("add(802)", x.add(OTHER_TWIN), 2);
        due("close()", x.close(), 2);
        due("advance(20, 1)", x.advance(20, 1), 1);
        dueHand("after advance", x, accumulated(TWIN), 0);
    }

    /** Where a serial has several witnesses, each goes its own way, which is not that of the issued one. */
    private static void advanceOfAnotherWitness() {
        Model model = new Model();
        BigInteger p = primeOf(20), k = BigInteger.TWO;
        while (!p.multiply(k).add(ONE).isProbablePrime(60)) {
            k = k.add(BigInteger.TWO);
        }
        BigInteger q = p.multiply(k).add(ONE), rest = ONE.shiftLeft(80).subtract(BigInteger.valueOf(65));
        BigInteger n = q.multiply(rest);
        PartsAccumulator x = withModulus(n);
        model.modulus(Model.word(n, true), Model.word(n, false));
        for (long s : new long[] {10, 20, 30}) {
            due("add(" + s + ")", x.add(s), model.add(s));
        }
        due("close()", x.close(), model.close());
        BigInteger lift = THREE.modPow(k, q).subtract(ONE).multiply(rest.modInverse(q)).mod(q);
        BigInteger root = lift.multiply(rest).add(ONE);
        BigInteger other = model.issued(20).multiply(root).mod(n);
        hold(x, other, 4, true);
        model.hold(Model.word(other, true), Model.word(other, false), 4);
        due("check(20, 1) of another witness", x.check(20, 1), 1);
        due("another witness is not the issued one", other.equals(model.issued(20)), false);
        due("close() without a change", x.close(), model.close());
        due("advance(20, 1) over no change", x.advance(20, 1), model.advance(20, 1));
        dueHand("after advance over no change: b is 1, c is 0", x, other, 4);
        due("remove(10)", x.remove(10), model.remove(10));
        due("add(40)", x.add(40), model.add(40));
        due("close()", x.close(), model.close());
        due("advance(20, 2) of another witness", x.advance(20, 2), model.advance(20, 2));
        dueHand("after advance", x, model.hand, 4);
        due("it is still not the issued one", model.hand.equals(model.issued(20)), false);
    }

    private static void advanceOfAbsent() {
        PartsAccumulator x = withPresent(TWIN, 20);
        due("issue(519)", x.issue(TWIN), 1);
        due("advance(519, 0)", x.advance(TWIN, 0), ABSENT);
        due("advance(802, 1): only its twin is present, whose witness is its own", x.advance(OTHER_TWIN, 1), ABSENT);
        due("add(40)", x.add(40), 3);
        due("advance(40, 1): only pending", x.advance(40, 1), ABSENT);
        due("close()", x.close(), 2);
        due("advance(40, 1): present behind that one, not in it", x.advance(40, 1), ABSENT);
        due("advance(519, 1)", x.advance(TWIN, 1), 1);
    }

    private static void advanceOfAbsentBehind() {
        PartsAccumulator x = withPresent(TWIN, 20);
        due("issue(519)", x.issue(TWIN), 1);
        due("remove(519)", x.remove(TWIN), 1);
        due("close()", x.close(), 2);
        due("advance(519, 1): not present now", x.advance(TWIN, 1), ABSENT);
        due("add(519)", x.add(TWIN), 2);
        due("close()", x.close(), 3);
        due("advance(519, 1): not present between", x.advance(TWIN, 1), ABSENT);
        due("advance(519, 2): not present in that one", x.advance(TWIN, 2), ABSENT);
        dueHand("after refusals", x, accumulated(20), 0);
        due("advance(519, 3): the witness fits epoch 3 too", x.advance(TWIN, 3), 0);
        closeUntil(x, 15);
        due("remove(519)", x.remove(TWIN), 1);
        due("close()", x.close(), 16);
        due("advance(519, 3): not present in the last of all", x.advance(TWIN, 3), ABSENT);
        due("advance(519, 15): not present in the last of all", x.advance(TWIN, 15), ABSENT);
    }

    private static void advanceOfWrong() {
        PartsAccumulator x = withPresent(10, 20);
        due("advance(20, 1) with 0 in the hand", x.advance(20, 1), WRONG);
        due("issue(10)", x.issue(10), 1);
        due("advance(20, 1) with a witness of another serial", x.advance(20, 1), WRONG);
        due("add(30)", x.add(30), 3);
        due("close()", x.close(), 2);
        due("advance(10, 2) with a witness for another epoch", x.advance(10, 2), WRONG);
        due("exclude(99)", x.exclude(99), product(10, 20, 30).modInverse(primeOf(99)).intValueExact());
        due("advance(10, 1) with a proof of exclusion", x.advance(10, 1), WRONG);
        due("issue(10)", x.issue(10), 2);
        due("advance(10, 1) with a witness for a later epoch", x.advance(10, 1), WRONG);
        dueHand("after refusals", x, accumulated(20, 30), 0);
        due("advance(10, 2)", x.advance(10, 2), 0);
    }

    private static void advanceAbsentBeforeWrong() {
        PartsAccumulator x = withPresent(10, 20);
        due("advance(30, 1) with 0 in the hand", x.advance(30, 1), ABSENT);
        due("advance(10, 0) with 0 in the hand", x.advance(10, 0), ABSENT);
        due("remove(10)", x.remove(10), 1);
        due("close()", x.close(), 2);
        due("advance(10, 1) with 0 in the hand", x.advance(10, 1), ABSENT);
    }

    private static void exclude() {
        PartsAccumulator x = withPresent(5, 6);
        due("add(7)", x.add(7), 3);
        dueExcluded(x, 7, 5, 6);
        dueExcluded(x, LAST_SERIAL, 5, 6);
        dueExcluded(x, 0, 5, 6);
        due("remove(5)", x.remove(5), 2);
        due("close()", x.close(), 2);
        dueExcluded(x, 5, 6, 7);
        dueSizes(x, 2, 2, 2);
    }

    private static void excludeFactors() {
        PartsAccumulator none = withModulus(N);
        due("exclude(5) with none present", none.exclude(5), 1);
        dueHand("after exclude", none, ONE, 1);
        due("checkExclude(5, 0)", none.checkExclude(5, 0), 1);
        dueExcluded(withPresent(range(1, 10)), 11, range(1, 10));
        dueExcluded(withPresent(OF_GREATEST_PRIMES), OF_LEAST_PRIMES[0], OF_GREATEST_PRIMES);
        dueExcluded(withPresent(OF_LEAST_PRIMES), OF_GREATEST_PRIMES[0], OF_LEAST_PRIMES);
        dueExcluded(withPresent(OF_GREATEST_PRIMES[1]), OF_GREATEST_PRIMES[0], OF_GREATEST_PRIMES[1]);
        dueExcluded(withPresent(OF_LEAST_PRIMES[0]), OF_LEAST_PRIMES[1], OF_LEAST_PRIMES[0]);
    }

    /** Where N leaves 1 and where it leaves 2 over 3, at both ends of its range, and where p divides N. */
    private static void excludeWithOtherModuli() {
        BigInteger[] moduli = {
            LEAST_N, LEAST_N.add(BigInteger.TWO), GREATEST_N, GREATEST_N.subtract(BigInteger.TWO),
            primeOf(7).multiply(ONE.shiftLeft(80).add(BigInteger.valueOf(7)))
        };
        for (BigInteger n : moduli) {
            PartsAccumulator x = withModulus(n);
            Model model = new Model();
            model.modulus(Model.word(n, true), Model.word(n, false));
            for (long s = 3; s < 7; s++) {
                due("add(" + s + ")", x.add(s), model.add(s));
            }
            due("close()", x.close(), model.close());
            // Several serials, so that the exponent c is even for some and odd for others.
            for (long s = 7; s < 15; s++) {
                due("exclude(" + s + ") modulo " + n, x.exclude(s), model.exclude(s));
                dueHand("after exclude(" + s + ") modulo " + n, x, model.hand, model.factor);
                due("checkExclude(" + s + ", 1) modulo " + n, x.checkExclude(s, 1), 1);
            }
        }
    }

    private static void excludePresent() {
        PartsAccumulator x = withPresent(5, 6);
        hold(x, BigInteger.TEN, 3, true);
        due("exclude(5)", x.exclude(5), PRESENT);
        due("remove(5)", x.remove(5), 1);
        due("exclude(5): pending no more, but present now", x.exclude(5), PRESENT);
        due("add(7)", x.add(7), 2);
        dueHand("after refusals", x, BigInteger.TEN, 3);
        dueExcluded(x, 7, 5, 6);
        due("close()", x.close(), 2);
        due("exclude(7)", x.exclude(7), PRESENT);
        dueExcluded(x, 5, 6, 7);
    }

    private static void excludeTwin() {
        PartsAccumulator x = withPresent(TWIN, 6);
        hold(x, BigInteger.TEN, 3, true);
        due("exclude(802)", x.exclude(OTHER_TWIN), CLASH);
        due("remove(519)", x.remove(TWIN), 1);
        due("exclude(802): 519 is present now", x.exclude(OTHER_TWIN), CLASH);
        due("add(802)", x.add(OTHER_TWIN), 2);
        due("exclude(802), pending: 519 is present now", x.exclude(OTHER_TWIN), CLASH);
        due("exclude(519)", x.exclude(TWIN), PRESENT);
        due("close()", x.close(), 2);
        due("exclude(519): 802 is present now", x.exclude(TWIN), CLASH);
        due("exclude(802)", x.exclude(OTHER_TWIN), PRESENT);
        dueHand("after refusals", x, BigInteger.TEN, 3);
        due("remove(802)", x.remove(OTHER_TWIN), 1);
        due("close()", x.close(), 3);
        due("add(802)", x.add(OTHER_TWIN), 2);
        dueExcluded(x, TWIN, 6);
        dueExcluded(x, OTHER_TWIN, 6);
    }

    private static void checkExcludeOne() {
        PartsAccumulator x = withPresent(TWIN, 6);
        int a = product(TWIN, 6).modInverse(primeOf(7)).intValueExact();
        due("exclude(7)", x.exclude(7), a);
        BigInteger proof = Model.join(x.hand(true), x.hand(false));
        due("checkExclude(7, 1)", x.checkExclude(7, 1), 1);
        dueHand("after checkExclude", x, proof, a);
        due("add(8)", x.add(8), 3);
        due("close()", x.close(), 2);
        due("checkExclude(7, 1) for an epoch of old", x.checkExclude(7, 1), 1);
        due("checkExclude(7, 2)", x.checkExclude(7, 2), 0);
        hold(x, ONE, 1, true);
        due("checkExclude(519, 0): none is present in epoch 0", x.checkExclude(TWIN, 0), 1);
        due("checkExclude(7, 0)", x.checkExclude(7, 0), 1);
    }

    private static void checkExcludeZero() {
        PartsAccumulator x = withPresent(TWIN, 6);
        due("checkExclude(7, 1) with 0 in the hand", x.checkExclude(7, 1), 0);
        due("checkExclude(7, 0) with 0 in the hand", x.checkExclude(7, 0), 0);
        int a = x.exclude(7);
        BigInteger proof = Model.join(x.hand(true), x.hand(false));
        due("checkExclude(7, 0)", x.checkExclude(7, 0), 0);
        due("checkExclude(8, 1)", x.checkExclude(8, 1), 0);
        due("checkExclude(6, 1), present", x.checkExclude(6, 1), 0);
        hold(x, proof, a + 1, true);
        due("checkExclude(7, 1) with another factor", x.checkExclude(7, 1), 0);
        hold(x, proof.add(ONE), a, true);
        due("checkExclude(7, 1) with another number", x.checkExclude(7, 1), 0);
        hold(x, N.subtract(proof), a, true);
        due("checkExclude(7, 1) with its negative", x.checkExclude(7, 1), 0);
        due("issue(6)", x.issue(6), 1);
        due("checkExclude(7, 1) with a witness", x.checkExclude(7, 1), 0);
        due("checkExclude(6, 1) with a witness", x.checkExclude(6, 1), 0);
    }

    /** With the factor 0 the number alone must be a root of 3. */
    private static void checkExcludeFactors() {
        PartsAccumulator x = withModulus(PRIME_N);
        addAll(x, 5);
        due("close()", x.close(), 1);
        hold(x, root(THREE, 20), 0, true);
        due("checkExclude(20, 1) with the factor 0", x.checkExclude(20, 1), 1);
        due("checkExclude(20, 0) with the factor 0", x.checkExclude(20, 0), 1);
        hold(x, root(THREE, 20), 1, true);
        due("checkExclude(20, 1) with the factor 1", x.checkExclude(20, 1), 0);
        hold(x, ONE, 0, true);
        due("checkExclude(20, 0) of 1 with the factor 0", x.checkExclude(20, 0), 0);
        BigInteger power = THREE.modPow(primeOf(5).multiply(BigInteger.valueOf(Integer.MAX_VALUE)), PRIME_N);
        BigInteger wanted = THREE.multiply(power.modInverse(PRIME_N)).mod(PRIME_N);
        hold(x, root(wanted, 20), Integer.MAX_VALUE, true);
        due("checkExclude(20, 1) with the greatest factor", x.checkExclude(20, 1), 1);
        due("checkExclude(20, 0) with the greatest factor", x.checkExclude(20, 0), 0);
    }
}
