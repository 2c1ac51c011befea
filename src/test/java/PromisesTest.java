import java.math.BigInteger;

/** Each promise of the document by itself: ordinary inputs, the edges that it names, and wrong inputs. */
public final class PromisesTest {
    private static final int NONE = -1, BAD = -2, PRESENT = -3, ABSENT = -4, CLASH = -5, FULL = -6, WRONG = -7;
    private static final long LAST_SERIAL = (1L << 40) - 1;
    /** Found by search: none of its 256 candidates is a prime. */
    private static final long WITHOUT_PRIME = 549793598160L;
    private static final long[] NO_SERIALS = {-1, LAST_SERIAL + 1, Long.MIN_VALUE, Long.MAX_VALUE, WITHOUT_PRIME};
    /** 519 and 802 have one prime, and so have 2572 and 10820. */
    private static final long TWIN = 519, OTHER_TWIN = 802;
    private static final BigInteger N = Model.join(-7777777777777777776L, 1234567890123456789L);
    private static final BigInteger ONE = BigInteger.ONE, THREE = BigInteger.valueOf(3);
    private static final Dues DUES = new Dues();

    public static void main(String[] args) {
        constants();
        newObject();
        modulus();
        modulusEdges();
        prime();
        primeAtHighCounters();
        primeAfterPseudoprimes();
        add();
        addRefusals();
        remove();
        close();
        closeUntilFull();
        size();
        state();
        accumulator();
        note();
        noteRefusals();
        witness();
        issue();
        hold();
        hand();
        factor();
        check();
        advance();
        advanceThroughAllEpochs();
        advanceOfAnotherWitness();
        advanceRefusals();
        exclude();
        excludeWithOtherModuli();
        excludeRefusals();
        checkExclude();
        noModulusComesBeforeBad();
        DUES.end();
    }

    private static void due(String call, long got, long want) {
        DUES.due(call, got, want);
    }

    private static void due(String call, boolean got, boolean want) {
        DUES.due(call, got, want);
    }

    private static PartsAccumulator withModulus(BigInteger n) {
        PartsAccumulator x = new PartsAccumulator();
        due("modulus(" + n + ")", x.modulus(Model.word(n, true), Model.word(n, false)), true);
        return x;
    }

    /** An object in whose epoch 1 the serials are present. */
    private static PartsAccumulator withPresent(long... serials) {
        PartsAccumulator x = withModulus(N);
        for (int i = 0; i < serials.length; i++) {
            due("add(" + serials[i] + ")", x.add(serials[i]), i + 1);
        }
        due("close()", x.close(), 1);
        return x;
    }

    private static BigInteger primeOf(long serial) {
        return BigInteger.valueOf(Model.primeOf(serial));
    }

    private static BigInteger product(long... serials) {
        BigInteger all = ONE;
        for (long s : serials) {
            all = all.multiply(primeOf(s));
        }
        return all;
    }

    private static BigInteger powerOfThree(BigInteger exponent) {
        return THREE.modPow(exponent, N);
    }

    private static void dueHand(String when, PartsAccumulator x, BigInteger number, int factor) {
        due("hand(true) " + when, x.hand(true), Model.word(number, true));
        due("hand(false) " + when, x.hand(false), Model.word(number, false));
        due("factor() " + when, x.factor(), factor);
    }

    private static void dueAccumulator(PartsAccumulator x, int epoch, BigInteger number) {
        due("accumulator(" + epoch + ", true)", x.accumulator(epoch, true), Model.word(number, true));
        due("accumulator(" + epoch + ", false)", x.accumulator(epoch, false), Model.word(number, false));
    }

    private static void hold(PartsAccumulator x, BigInteger number, int factor, boolean want) {
        String call = "hold(" + number + ", " + factor + ")";
        due(call, x.hold(Model.word(number, true), Model.word(number, false), factor), want);
    }

    private static void constants() {
        due("NONE", PartsAccumulator.NONE, -1);
        due("BAD", PartsAccumulator.BAD, -2);
        due("PRESENT", PartsAccumulator.PRESENT, -3);
        due("ABSENT", PartsAccumulator.ABSENT, -4);
        due("CLASH", PartsAccumulator.CLASH, -5);
        due("FULL", PartsAccumulator.FULL, -6);
        due("WRONG", PartsAccumulator.WRONG, -7);
    }

    private static void newObject() {
        PartsAccumulator x = new PartsAccumulator();
        dueNone(x, 5, 0);
        withModulus(N);
        dueNone(x, 5, 0);
    }

    private static void noModulusComesBeforeBad() {
        dueNone(new PartsAccumulator(), -1, 99);
    }

    private static void dueNone(PartsAccumulator x, long serial, int epoch) {
        due("add without modulus", x.add(serial), NONE);
        due("remove without modulus", x.remove(serial), NONE);
        due("close without modulus", x.close(), NONE);
        for (int k = -1; k <= 3; k++) {
            due("size without modulus", x.size(k), NONE);
        }
        due("state without modulus", x.state(serial), NONE);
        due("accumulator without modulus", x.accumulator(epoch, true), 0);
        due("accumulator without modulus", x.accumulator(epoch, false), 0);
        due("note without modulus", x.note(epoch, 0, 0), NONE);
        due("note without modulus", x.note(epoch, 9, -1), NONE);
        due("witness without modulus", x.witness(serial, true), 0);
        due("witness without modulus", x.witness(serial, false), 0);
        due("issue without modulus", x.issue(serial), NONE);
        due("hold without modulus", x.hold(0, 0, 0), false);
        due("hold without modulus", x.hold(0, 1, 1), false);
        due("hand without modulus", x.hand(true), 0);
        due("hand without modulus", x.hand(false), 0);
        due("factor without modulus", x.factor(), NONE);
        due("check without modulus", x.check(serial, epoch), NONE);
        due("advance without modulus", x.advance(serial, epoch), NONE);
        due("exclude without modulus", x.exclude(serial), NONE);
        due("checkExclude without modulus", x.checkExclude(serial, epoch), NONE);
    }

    private static void modulus() {
        PartsAccumulator x = withModulus(N);
        due("size(2)", x.size(2), 0);
        due("size(0)", x.size(0), 0);
        dueAccumulator(x, 0, THREE);
        dueHand("at first", x, BigInteger.ZERO, 0);
        due("a second modulus", x.modulus(1L << 36, 1), false);
        due("the same modulus again", x.modulus(Model.word(N, true), Model.word(N, false)), false);
        hold(x, N.subtract(ONE), 0, true);
    }

    private static void modulusEdges() {
        BigInteger least = ONE.shiftLeft(100), top = ONE.shiftLeft(128);
        for (int i = 1; i < 40; i++) {
            BigInteger small = least.subtract(BigInteger.valueOf(i));
            due("modulus 2^100 - " + i, new PartsAccumulator().modulus(Model.word(small, true), Model.word(small, false)), false);
            dueModulus(least.add(BigInteger.valueOf(i - 1)));
            dueModulus(top.subtract(BigInteger.valueOf(i)));
            dueModulus(least.shiftLeft(27).add(BigInteger.valueOf(i)));
            dueModulus(N.add(BigInteger.valueOf(i)));
        }
        due("modulus(0, 0)", new PartsAccumulator().modulus(0, 0), false);
        due("modulus(0, 5)", new PartsAccumulator().modulus(0, 5), false);
        due("modulus(0, -1)", new PartsAccumulator().modulus(0, -1), false);
    }

    private static void dueModulus(BigInteger n) {
        PartsAccumulator x = new PartsAccumulator();
        boolean fits = n.testBit(0) && n.mod(THREE).signum() != 0;
        due("modulus " + n, x.modulus(Model.word(n, true), Model.word(n, false)), fits);
        due("size(2) after modulus " + n, x.size(2), fits ? 0 : NONE);
        if (!fits) {
            due("modulus after a refused one", x.modulus(1L << 36, 1), true);
        }
    }

    private static void prime() {
        PartsAccumulator x = new PartsAccumulator();
        due("prime(0)", x.prime(0), 1533390917);
        due("prime(1)", x.prime(1), 1494917917);
        due("prime(2^40 - 1)", x.prime(LAST_SERIAL), 1542615743);
        due("prime(519)", x.prime(TWIN), 1667257819);
        due("prime(802)", x.prime(OTHER_TWIN), 1667257819);
        for (long s : NO_SERIALS) {
            due("prime(" + s + ")", x.prime(s), BAD);
        }
        for (long s = 0; s < 200; s++) {
            due("prime(" + s + ")", x.prime(s), Model.primeOf(s));
            long wide = s * 5497558138L + (1L << 31);
            due("prime(" + wide + ")", x.prime(wide), Model.primeOf(wide));
        }
        PartsAccumulator y = withModulus(N);
        due("prime(1) with a modulus", y.prime(1), 1494917917);
        due("prime(-1) with a modulus", y.prime(-1), BAD);
    }

    /** Serials, found by search, whose first prime comes late or not at all: the counter goes up to 255. */
    private static void primeAtHighCounters() {
        PartsAccumulator x = new PartsAccumulator();
        long[] serials = {20501489, 12887952554L, 8594130623L, 4434283575L, WITHOUT_PRIME};
        int[] counters = {190, 220, 230, 243, 256};
        for (int i = 0; i < serials.length; i++) {
            due("the model's counter of " + serials[i], Model.counterOf(serials[i]), counters[i]);
            due("prime(" + serials[i] + ")", x.prime(serials[i]), Model.primeOf(serials[i]));
        }
    }

    /**
     * Serials, found by search, with a composite before their prime that passes for a prime in a weaker test:
     * the strong tests to two of the bases 2, 7 and 61, or to one of them, or Fermat's test to all three.
     */
    private static void primeAfterPseudoprimes() {
        PartsAccumulator x = new PartsAccumulator();
        long[] serials = {
            7857843, 7926691, 7245177, 9452098, 13440921, 15608037, 16467515, 12649901, 17532139, 21521927,
            290781, 357388, 37627, 59155, 22933, 117853, 382481, 533212, 537559, 1043477
        };
        for (long s : serials) {
            due("prime(" + s + ")", x.prime(s), Model.primeOf(s));
        }
    }

    private static void add() {
        PartsAccumulator x = withModulus(N);
        due("add(0)", x.add(0), 1);
        due("add(2^40 - 1)", x.add(LAST_SERIAL), 2);
        due("add(7)", x.add(7), 3);
        due("state(7)", x.state(7), 2);
        due("size(1)", x.size(1), 3);
        due("size(0): pending ones are not present", x.size(0), 0);
        due("add(7) again", x.add(7), PRESENT);
        due("size(1)", x.size(1), 3);
        due("close()", x.close(), 1);
        due("add(7) after close", x.add(7), PRESENT);
        due("remove(7)", x.remove(7), 2);
        due("add(7), present but not pending", x.add(7), 3);
    }

    private static void addRefusals() {
        PartsAccumulator x = withModulus(N);
        for (long s : NO_SERIALS) {
            due("add(" + s + ")", x.add(s), BAD);
        }
        due("add(519)", x.add(TWIN), 1);
        due("add(802)", x.add(OTHER_TWIN), CLASH);
        due("state(802)", x.state(OTHER_TWIN), 0);
        for (int i = 1; i < 10; i++) {
            due("add(" + i + ")", x.add(i), i + 1);
        }
        due("add(10): an eleventh", x.add(10), FULL);
        due("add(519) when full", x.add(TWIN), PRESENT);
        due("add(802) when full", x.add(OTHER_TWIN), CLASH);
        due("add(-1) when full", x.add(-1), BAD);
        due("size(1)", x.size(1), 10);
        due("state(10)", x.state(10), 0);
        due("remove(519)", x.remove(TWIN), 9);
        due("add(802) after its twin went", x.add(OTHER_TWIN), 10);
        due("add(519)", x.add(TWIN), CLASH);
        due("close()", x.close(), 1);
        due("remove(802)", x.remove(OTHER_TWIN), 9);
        due("add(519): its twin is present but not pending", x.add(TWIN), 10);
    }

    private static void remove() {
        PartsAccumulator x = withPresent(3, 1, 2);
        due("remove(4)", x.remove(4), ABSENT);
        due("remove(1)", x.remove(1), 2);
        due("remove(1) again", x.remove(1), ABSENT);
        due("state(1): still present", x.state(1), 1);
        due("state(2)", x.state(2), 3);
        due("state(3)", x.state(3), 3);
        due("remove(3)", x.remove(3), 1);
        due("remove(2)", x.remove(2), 0);
        due("size(1)", x.size(1), 0);
        due("size(0)", x.size(0), 3);
        due("remove(2) of none", x.remove(2), ABSENT);
        for (long s : NO_SERIALS) {
            due("remove(" + s + ")", x.remove(s), BAD);
        }
        due("add(519)", x.add(TWIN), 1);
        due("remove(802): its twin is pending", x.remove(OTHER_TWIN), ABSENT);
        due("size(1)", x.size(1), 1);
    }

    private static void close() {
        PartsAccumulator x = withModulus(N);
        due("close() of none", x.close(), 1);
        dueAccumulator(x, 1, THREE);
        due("add(5)", x.add(5), 1);
        due("close()", x.close(), 2);
        due("state(5): stays pending", x.state(5), 3);
        due("size(0)", x.size(0), 1);
        due("close() without a change", x.close(), 3);
        due("remove(5)", x.remove(5), 0);
        due("state(5) before the close", x.state(5), 1);
        due("close()", x.close(), 4);
        due("state(5)", x.state(5), 0);
        dueAccumulator(x, 2, powerOfThree(primeOf(5)));
        dueAccumulator(x, 3, powerOfThree(primeOf(5)));
        dueAccumulator(x, 4, THREE);
    }

    private static void closeUntilFull() {
        PartsAccumulator x = withModulus(N);
        for (int e = 1; e <= 16; e++) {
            due("close()", x.close(), e);
            due("size(2)", x.size(2), e);
        }
        due("add(5)", x.add(5), 1);
        due("close(), a seventeenth", x.close(), FULL);
        due("size(2)", x.size(2), 16);
        due("state(5): pending, not present", x.state(5), 2);
        dueAccumulator(x, 16, THREE);
        dueAccumulator(x, 17, BigInteger.ZERO);
    }

    private static void size() {
        PartsAccumulator x = withPresent(1, 2, 3);
        due("remove(1)", x.remove(1), 2);
        due("size(0)", x.size(0), 3);
        due("size(1)", x.size(1), 2);
        due("size(2)", x.size(2), 1);
        for (int k : new int[] {3, -1, Integer.MAX_VALUE, Integer.MIN_VALUE}) {
            due("size(" + k + ")", x.size(k), BAD);
        }
    }

    private static void state() {
        PartsAccumulator x = withPresent(TWIN, 4);
        due("remove(519)", x.remove(TWIN), 1);
        due("add(802)", x.add(OTHER_TWIN), 2);
        due("state: neither", x.state(9), 0);
        due("state: present", x.state(TWIN), 1);
        due("state: pending", x.state(OTHER_TWIN), 2);
        due("state: both", x.state(4), 3);
        for (long s : NO_SERIALS) {
            due("state(" + s + ")", x.state(s), BAD);
        }
    }

    private static void accumulator() {
        PartsAccumulator x = withPresent(5, 6);
        dueAccumulator(x, 0, THREE);
        dueAccumulator(x, 1, powerOfThree(product(5, 6)));
        for (int e : new int[] {-1, 2, 16, 17, Integer.MAX_VALUE, Integer.MIN_VALUE}) {
            dueAccumulator(x, e, BigInteger.ZERO);
        }
        for (int i = 10; i < 18; i++) {
            x.add(i);
        }
        due("close() with ten", x.close(), 2);
        dueAccumulator(x, 2, powerOfThree(product(5, 6, 10, 11, 12, 13, 14, 15, 16, 17)));
        dueAccumulator(x, 1, powerOfThree(product(5, 6)));
    }

    private static void note() {
        PartsAccumulator x = withPresent(30, 10, 1L << 33, 20);
        dueNote(x, 1, new long[] {10, 20, 30, 1L << 33}, new long[] {});
        x.remove(1L << 33);
        x.remove(10);
        x.add(25);
        x.add(LAST_SERIAL);
        x.add(0);
        dueNote(x, 1, new long[] {10, 20, 30, 1L << 33}, new long[] {});
        due("close()", x.close(), 2);
        dueNote(x, 2, new long[] {0, 25, LAST_SERIAL}, new long[] {10, 1L << 33});
        x.remove(0);
        x.add(0);
        due("close()", x.close(), 3);
        dueNote(x, 3, new long[] {}, new long[] {});
        dueNote(x, 2, new long[] {0, 25, LAST_SERIAL}, new long[] {10, 1L << 33});
    }

    private static void dueNote(PartsAccumulator x, int epoch, long[] added, long[] removed) {
        long[][] told = {added, removed};
        for (int kind = 0; kind < 2; kind++) {
            due("note(" + epoch + ", " + kind + ", 0)", x.note(epoch, kind, 0), told[kind].length);
            due("note(" + epoch + ", " + kind + ", -9)", x.note(epoch, kind, -9), told[kind].length);
            for (int i = 0; i < told[kind].length; i++) {
                String call = "note(" + epoch + ", " + (kind + 2) + ", " + i + ")";
                due(call, x.note(epoch, kind + 2, i), Model.primeOf(told[kind][i]));
            }
            for (int i : new int[] {-1, told[kind].length, Integer.MAX_VALUE, Integer.MIN_VALUE}) {
                due("note(" + epoch + ", " + (kind + 2) + ", " + i + ")", x.note(epoch, kind + 2, i), BAD);
            }
        }
    }

    private static void noteRefusals() {
        PartsAccumulator x = withPresent(TWIN);
        for (int e : new int[] {0, -1, 2, 16, 17, Integer.MAX_VALUE, Integer.MIN_VALUE}) {
            due("note(" + e + ", 0, 0)", x.note(e, 0, 0), BAD);
            due("note(" + e + ", 2, 0)", x.note(e, 2, 0), BAD);
        }
        for (int what : new int[] {-1, 4, Integer.MAX_VALUE, Integer.MIN_VALUE}) {
            due("note(1, " + what + ", 0)", x.note(1, what, 0), BAD);
        }
        x.remove(TWIN);
        x.add(OTHER_TWIN);
        due("close()", x.close(), 2);
        dueNote(x, 2, new long[] {OTHER_TWIN}, new long[] {TWIN});
    }

    private static void witness() {
        PartsAccumulator x = withPresent(5, 6, 7);
        BigInteger due = powerOfThree(product(5, 7));
        due("witness(6, true)", x.witness(6, true), Model.word(due, true));
        due("witness(6, false)", x.witness(6, false), Model.word(due, false));
        dueHand("after witness", x, BigInteger.ZERO, 0);
        x.remove(6);
        due("witness of one still present", x.witness(6, false), Model.word(due, false));
        x.add(8);
        due("witness of one only pending", x.witness(8, false), 0);
        x.close();
        due("witness(6, true) of one removed", x.witness(6, true), 0);
        due("witness(6, false) of one removed", x.witness(6, false), 0);
        due("witness(7, false)", x.witness(7, false), Model.word(powerOfThree(product(5, 8)), false));
        for (long s : NO_SERIALS) {
            due("witness(" + s + ", true)", x.witness(s, true), 0);
            due("witness(" + s + ", false)", x.witness(s, false), 0);
        }
        PartsAccumulator y = withPresent(TWIN);
        due("witness of the only one", y.witness(TWIN, false), 3);
        due("witness of the only one", y.witness(TWIN, true), 0);
        due("witness of its twin", y.witness(OTHER_TWIN, false), 0);
    }

    private static void issue() {
        PartsAccumulator x = withPresent(5, TWIN, 7);
        hold(x, BigInteger.TEN, 12, true);
        due("issue(8)", x.issue(8), ABSENT);
        due("issue(802): only its twin is present", x.issue(OTHER_TWIN), ABSENT);
        for (long s : NO_SERIALS) {
            due("issue(" + s + ")", x.issue(s), BAD);
        }
        x.add(8);
        due("issue(8), only pending", x.issue(8), ABSENT);
        dueHand("after refusals", x, BigInteger.TEN, 12);
        due("issue(5)", x.issue(5), 2);
        dueHand("after issue", x, powerOfThree(product(TWIN, 7)), 0);
        x.close();
        due("issue(5)", x.issue(5), 3);
        dueHand("after issue", x, powerOfThree(product(TWIN, 7, 8)), 0);
        PartsAccumulator y = withPresent(9);
        due("issue of the only one", y.issue(9), 0);
        dueHand("after issue", y, THREE, 0);
    }

    private static void hold() {
        PartsAccumulator x = withModulus(N);
        hold(x, N.subtract(ONE), Integer.MAX_VALUE, true);
        dueHand("after hold", x, N.subtract(ONE), Integer.MAX_VALUE);
        hold(x, N, 0, false);
        hold(x, N.add(ONE), 0, false);
        hold(x, N.add(ONE.shiftLeft(64)), 0, false);
        hold(x, ONE.shiftLeft(128).subtract(ONE), 0, false);
        hold(x, ONE, -1, false);
        hold(x, ONE, Integer.MIN_VALUE, false);
        dueHand("after refusals", x, N.subtract(ONE), Integer.MAX_VALUE);
        hold(x, N.subtract(ONE.shiftLeft(64)).add(ONE), 1, true);
        hold(x, ONE.shiftLeft(64).subtract(ONE), 0, true);
        dueHand("after hold", x, ONE.shiftLeft(64).subtract(ONE), 0);
        hold(x, BigInteger.ZERO, 3, true);
        dueHand("after hold", x, BigInteger.ZERO, 3);
        PartsAccumulator small = withModulus(ONE.shiftLeft(100).add(ONE));
        due("hold(-1, 0, 0): above a small modulus", small.hold(-1, 0, 0), false);
        due("hold(2^36, 1, 0)", small.hold(1L << 36, 1, 0), false);
        due("hold(2^36, 0, 0)", small.hold(1L << 36, 0, 0), true);
        due("hold(2^36 - 1, -1, 0)", small.hold((1L << 36) - 1, -1, 0), true);
    }

    private static void hand() {
        PartsAccumulator x = withPresent(5, 6);
        due("hand(true) at first", x.hand(true), 0);
        due("hand(false) at first", x.hand(false), 0);
        due("hold(1, -2, 0)", x.hold(1, -2, 0), true);
        due("hand(true)", x.hand(true), 1);
        due("hand(false)", x.hand(false), -2);
        x.add(7);
        x.close();
        x.check(5, 1);
        x.checkExclude(5, 1);
        x.witness(5, true);
        due("hand(true) after calls that only look", x.hand(true), 1);
        due("hand(false) after calls that only look", x.hand(false), -2);
    }

    private static void factor() {
        PartsAccumulator x = withPresent(5, 6);
        due("factor() at first", x.factor(), 0);
        due("hold(0, 9, 2147483647)", x.hold(0, 9, Integer.MAX_VALUE), true);
        due("factor()", x.factor(), Integer.MAX_VALUE);
        int a = product(5, 6).modInverse(primeOf(7)).intValueExact();
        due("exclude(7)", x.exclude(7), a);
        due("factor()", x.factor(), a);
        due("issue(5)", x.issue(5), 1);
        due("factor() after issue", x.factor(), 0);
    }

    private static void check() {
        PartsAccumulator x = withPresent(5, TWIN);
        due("check(5, 1) with 0 in the hand", x.check(5, 1), 0);
        due("issue(519)", x.issue(TWIN), 1);
        due("check(519, 1)", x.check(TWIN, 1), 1);
        due("check(802, 1): of its twin, not present", x.check(OTHER_TWIN, 1), 1);
        due("check(5, 1)", x.check(5, 1), 0);
        due("check(519, 0)", x.check(TWIN, 0), 0);
        for (int e : new int[] {-1, 2, 17, Integer.MAX_VALUE, Integer.MIN_VALUE}) {
            due("check(519, " + e + ")", x.check(TWIN, e), BAD);
        }
        for (long s : NO_SERIALS) {
            due("check(" + s + ", 1)", x.check(s, 1), BAD);
        }
        hold(x, powerOfThree(primeOf(5)), 77, true);
        due("check(519, 1) of a number that was told, whatever the factor", x.check(TWIN, 1), 1);
        hold(x, powerOfThree(primeOf(5)).add(ONE), 0, true);
        due("check(519, 1) of the next number", x.check(TWIN, 1), 0);
        hold(x, N.subtract(powerOfThree(primeOf(5))), 0, true);
        due("check(519, 1) of its negative", x.check(TWIN, 1), 0);
        x.add(6);
        x.close();
        hold(x, powerOfThree(primeOf(5)), 0, true);
        due("check(519, 1) for an epoch of old", x.check(TWIN, 1), 1);
        due("check(519, 2)", x.check(TWIN, 2), 0);
    }

    private static void advance() {
        PartsAccumulator x = withPresent(10, 20, 30);
        BigInteger old = powerOfThree(product(10, 30));
        x.add(40);
        x.close();
        hold(x, old, 5, true);
        due("advance(20, 1): one added", x.advance(20, 1), 1);
        dueHand("after advance, the factor as it was", x, powerOfThree(product(10, 30, 40)), 5);
        due("advance(20, 2): none to go", x.advance(20, 2), 0);
        dueHand("after advance", x, powerOfThree(product(10, 30, 40)), 5);
        x.remove(10);
        x.close();
        due("advance(20, 2): one removed", x.advance(20, 2), 1);
        dueHand("after advance", x, powerOfThree(product(30, 40)), 5);
        x.remove(30);
        x.remove(40);
        x.add(50);
        x.add(60);
        x.close();
        due("advance(20, 3): some of both", x.advance(20, 3), 1);
        dueHand("after advance", x, powerOfThree(product(50, 60)), 5);
        hold(x, old, 5, true);
        due("advance(20, 1): three epochs", x.advance(20, 1), 3);
        dueHand("after advance", x, powerOfThree(product(50, 60)), 5);
        due("check(20, 4)", x.check(20, 4), 1);
        due("state(20)", x.state(20), 3);
    }

    /** Nine go and nine others come in each epoch: the greatest exponents that there can be. */
    private static void advanceThroughAllEpochs() {
        PartsAccumulator x = withModulus(ONE.shiftLeft(128).subtract(THREE));
        Model model = new Model();
        model.modulus(-1, -3);
        x.add(1000);
        model.add(1000);
        for (int e = 1; e <= 16; e++) {
            for (int i = 0; i < 9; i++) {
                x.remove(10 * e + i - 10);
                model.remove(10 * e + i - 10);
                due("add", x.add(10 * e + i), model.add(10 * e + i));
            }
            due("close()", x.close(), model.close());
            if (e == 1) {
                due("issue(1000)", x.issue(1000), model.issue(1000));
            }
        }
        due("advance(1000, 1)", x.advance(1000, 1), 15);
        dueHand("after advance", x, model.issued(1000), 0);
    }

    /** Where a serial has several witnesses, each goes its own way, which is not that of the issued one. */
    private static void advanceOfAnotherWitness() {
        Model model = new Model();
        BigInteger p = primeOf(20), k = BigInteger.TWO;
        while (!p.multiply(k).add(ONE).isProbablePrime(60)) {
            k = k.add(BigInteger.TWO);
        }
        BigInteger q = p.multiply(k).add(ONE), rest = ONE.shiftLeft(80).subtract(BigInteger.valueOf(65));
        BigInteger n = q.multiply(rest);
        PartsAccumulator x = withModulus(n);
        model.modulus(Model.word(n, true), Model.word(n, false));
        for (long s : new long[] {10, 20, 30}) {
            due("add(" + s + ")", x.add(s), model.add(s));
        }
        due("close()", x.close(), model.close());
        BigInteger lift = THREE.modPow(k, q).subtract(ONE).multiply(rest.modInverse(q)).mod(q);
        BigInteger root = lift.multiply(rest).add(ONE);
        BigInteger other = model.issued(20).multiply(root).mod(n);
        hold(x, other, 4, true);
        model.hold(Model.word(other, true), Model.word(other, false), 4);
        due("check(20, 1) of another witness", x.check(20, 1), 1);
        due("another witness is not the issued one", other.equals(model.issued(20)), false);
        x.remove(10);
        model.remove(10);
        x.add(40);
        model.add(40);
        due("close()", x.close(), model.close());
        due("advance(20, 1) of another witness", x.advance(20, 1), model.advance(20, 1));
        dueHand("after advance", x, model.hand, 4);
        due("it is still not the issued one", model.hand.equals(model.issued(20)), false);
    }

    private static void advanceRefusals() {
        PartsAccumulator x = withPresent(TWIN, 20, 30);
        x.issue(TWIN);
        due("advance(802, 1): only its twin is present", x.advance(OTHER_TWIN, 1), ABSENT);
        due("advance(519, 0): not present in that one", x.advance(TWIN, 0), ABSENT);
        due("advance(20, 1)", x.advance(20, 1), WRONG);
        for (int e : new int[] {-1, 2, 17, Integer.MAX_VALUE, Integer.MIN_VALUE}) {
            due("advance(519, " + e + ")", x.advance(TWIN, e), BAD);
        }
        for (long s : NO_SERIALS) {
            due("advance(" + s + ", 1)", x.advance(s, 1), BAD);
        }
        x.remove(TWIN);
        x.close();
        due("advance(519, 1): not present now", x.advance(TWIN, 1), ABSENT);
        x.add(TWIN);
        x.close();
        due("advance(519, 1): not present between", x.advance(TWIN, 1), ABSENT);
        due("advance(519, 3): a witness of epoch 1 fits epoch 3 too", x.advance(TWIN, 3), 0);
        due("advance(10, 1): ABSENT goes before WRONG", x.advance(10, 1), ABSENT);
        due("advance(20, 1): no witness of that serial", x.advance(20, 1), WRONG);
        x.add(40);
        x.close();
        due("advance(519, 4): a witness of another epoch", x.advance(TWIN, 4), WRONG);
        dueHand("after refusals", x, powerOfThree(product(20, 30)), 0);
    }

    private static void exclude() {
        PartsAccumulator x = withPresent(5, 6);
        x.add(7);
        dueExcluded(x, 7, 5, 6);
        dueExcluded(x, LAST_SERIAL, 5, 6);
        x.remove(5);
        x.close();
        dueExcluded(x, 5, 6, 7);
        PartsAccumulator none = withModulus(N);
        due("exclude(5) of an empty register", none.exclude(5), 1);
        dueHand("after exclude", none, ONE, 1);
        PartsAccumulator full = withPresent(1, 2, 3, 4, 5, 6, 7, 8, 9, 10);
        dueExcluded(full, 11, 1, 2, 3, 4, 5, 6, 7, 8, 9, 10);
    }

    private static void dueExcluded(PartsAccumulator x, long serial, long... present) {
        BigInteger p = primeOf(serial), all = product(present), a = all.modInverse(p);
        BigInteger c = a.multiply(all).subtract(ONE).divide(p);
        due("exclude(" + serial + ")", x.exclude(serial), a.intValueExact());
        dueHand("after exclude(" + serial + ")", x, powerOfThree(c).modInverse(N), a.intValueExact());
        due("checkExclude(" + serial + ", NOW)", x.checkExclude(serial, x.size(2)), 1);
    }

    /** The inverse modulo N, where N leaves 1 and where it leaves 2 over 3, at both ends of its range. */
    private static void excludeWithOtherModuli() {
        BigInteger[] moduli = {
            ONE.shiftLeft(100).add(ONE), ONE.shiftLeft(100).add(THREE), ONE.shiftLeft(128).subtract(THREE),
            ONE.shiftLeft(128).subtract(BigInteger.valueOf(5)), primeOf(7).multiply(ONE.shiftLeft(80).add(BigInteger.valueOf(7)))
        };
        for (BigInteger n : moduli) {
            PartsAccumulator x = withModulus(n);
            Model model = new Model();
            model.modulus(Model.word(n, true), Model.word(n, false));
            for (long s = 3; s < 7; s++) {
                due("add(" + s + ")", x.add(s), model.add(s));
            }
            due("close()", x.close(), model.close());
            // Several serials, so that the exponent c is even for some and odd for others.
            for (long s = 7; s < 15; s++) {
                due("exclude(" + s + ") modulo " + n, x.exclude(s), model.exclude(s));
                dueHand("after exclude(" + s + ") modulo " + n, x, model.hand, model.factor);
                due("checkExclude(" + s + ", 1) modulo " + n, x.checkExclude(s, 1), 1);
            }
        }
    }

    private static void excludeRefusals() {
        PartsAccumulator x = withPresent(TWIN, 6);
        hold(x, BigInteger.TEN, 3, true);
        due("exclude(519)", x.exclude(TWIN), PRESENT);
        due("exclude(802)", x.exclude(OTHER_TWIN), CLASH);
        for (long s : NO_SERIALS) {
            due("exclude(" + s + ")", x.exclude(s), BAD);
        }
        x.remove(TWIN);
        due("exclude(519): still present now", x.exclude(TWIN), PRESENT);
        x.add(OTHER_TWIN);
        due("exclude(802): pending, but its twin is present now", x.exclude(OTHER_TWIN), CLASH);
        dueHand("after refusals", x, BigInteger.TEN, 3);
        x.close();
        due("exclude(519)", x.exclude(TWIN), CLASH);
        x.remove(OTHER_TWIN);
        x.close();
        x.add(OTHER_TWIN);
        dueExcluded(x, TWIN, 6);
        dueExcluded(x, OTHER_TWIN, 6);
    }

    private static void checkExclude() {
        PartsAccumulator x = withPresent(TWIN, 6);
        due("checkExclude(7, 1) with 0 in the hand", x.checkExclude(7, 1), 0);
        int a = x.exclude(7);
        BigInteger proof = Model.join(x.hand(true), x.hand(false));
        due("checkExclude(7, 1)", x.checkExclude(7, 1), 1);
        due("checkExclude(7, 0)", x.checkExclude(7, 0), 0);
        due("checkExclude(8, 1)", x.checkExclude(8, 1), 0);
        due("checkExclude(6, 1)", x.checkExclude(6, 1), 0);
        for (int e : new int[] {-1, 2, 17, Integer.MAX_VALUE, Integer.MIN_VALUE}) {
            due("checkExclude(7, " + e + ")", x.checkExclude(7, e), BAD);
        }
        for (long s : NO_SERIALS) {
            due("checkExclude(" + s + ", 1)", x.checkExclude(s, 1), BAD);
        }
        dueHand("after checkExclude", x, proof, a);
        hold(x, proof, a + 1, true);
        due("checkExclude(7, 1) with another factor", x.checkExclude(7, 1), 0);
        hold(x, proof.add(ONE), a, true);
        due("checkExclude(7, 1) with another number", x.checkExclude(7, 1), 0);
        hold(x, ONE, 1, true);
        due("checkExclude(519, 0): none is present in epoch 0", x.checkExclude(TWIN, 0), 1);
        hold(x, ONE, 0, true);
        due("checkExclude(519, 0) with the factor 0", x.checkExclude(TWIN, 0), 0);
        x.add(8);
        x.close();
        hold(x, proof, a, true);
        due("checkExclude(7, 1) for an epoch of old", x.checkExclude(7, 1), 1);
        due("checkExclude(7, 2)", x.checkExclude(7, 2), 0);
    }
}
