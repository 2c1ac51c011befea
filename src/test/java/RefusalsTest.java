import java.util.ArrayList;
import java.util.List;
import java.util.function.Supplier;
import java.util.function.ToLongFunction;

/**
 * 'What is refused changes nothing': each refused call is made of one of two objects with the same past, which
 * must then tell the same, also of what is done with them later. So must calls that only ask.
 */
public final class RefusalsTest extends Case {
    /** Pending or present in one of the states below, or in none. */
    private static final long[] WATCHED = {0, 1, 5, 6, 10, TWIN, OTHER_TWIN, LAST_SERIAL};
    private static final long YES = 1, NO = 0;

    private static Supplier<PartsAccumulator> state;

    public static void main(String[] args) {
        state = PartsAccumulator::new;
        sentence("refused without a modulus", RefusalsTest::refusedWithoutModulus);
        sentence("calls that only ask, without a modulus", RefusalsTest::onlyAsked);
        sentence("2: a modulus that does not fit is refused", RefusalsTest::refusedModulus);
        List<Supplier<PartsAccumulator>> states = List.of(
            RefusalsTest::atFirst, RefusalsTest::underWay, RefusalsTest::withProof, RefusalsTest::full);
        for (int i = 0; i < states.size(); i++) {
            state = states.get(i);
            String where = ", state " + i;
            sentence("2: a second modulus is refused" + where, RefusalsTest::refusedSecondModulus);
            sentence("a serial that is none is refused" + where, RefusalsTest::refusedSerials);
            sentence("an epoch that is not there is refused" + where, RefusalsTest::refusedEpochs);
            sentence("7, 10: BAD" + where, RefusalsTest::refusedKinds);
            sentence("13: a number or a factor is refused" + where, RefusalsTest::refusedHold);
            sentence("calls that only ask" + where, RefusalsTest::onlyAsked);
        }
        state = RefusalsTest::atFirst;
        sentence("refused when nothing is there yet", RefusalsTest::refusedAtFirst);
        state = RefusalsTest::underWay;
        sentence("4, 5: PRESENT, CLASH, ABSENT", RefusalsTest::refusedPending);
        sentence("11, 12: not present now", RefusalsTest::refusedIssue);
        sentence("17: ABSENT, WRONG", RefusalsTest::refusedAdvance);
        sentence("18: PRESENT, CLASH", RefusalsTest::refusedExclude);
        state = RefusalsTest::withProof;
        sentence("17: WRONG with a proof in the hand", RefusalsTest::refusedAdvanceOfProof);
        state = RefusalsTest::full;
        sentence("4: FULL when there are 10", RefusalsTest::refusedWhenTen);
        sentence("6: FULL when NOW is 16", RefusalsTest::refusedClose);
        DUES.end();
    }

    private static PartsAccumulator atFirst() {
        return withModulus(N);
    }

    /** NOW is 3; 519, 5 and 6 are present, 1, 5 and 519 pending; the hand has the witness of 5 for epoch 2. */
    private static PartsAccumulator underWay() {
        PartsAccumulator x = withPresent(5, TWIN, 10);
        due("remove(10)", x.remove(10), 2);
        due("close()", x.close(), 2);
        due("issue(5)", x.issue(5), 1);
        due("add(6)", x.add(6), 3);
        due("close()", x.close(), 3);
        due("remove(6)", x.remove(6), 2);
        due("add(1)", x.add(1), 3);
        return x;
    }

    /** The same with a proof that 0 is not present. */
    private static PartsAccumulator withProof() {
        PartsAccumulator x = underWay();
        due("exclude(0)", x.exclude(0), product(5, TWIN, 6).modInverse(primeOf(0)).intValueExact());
        return x;
    }

    /** NOW is 16, ten serials are pending, nine of them present; the hand has the greatest there is. */
    private static PartsAccumulator full() {
        PartsAccumulator x = withPresent(TWIN, 1, 2, 3, 4, 5, 6, 7, 8);
        closeUntil(x, 16);
        due("add(2^40 - 1)", x.add(LAST_SERIAL), 10);
        hold(x, N.subtract(ONE), Integer.MAX_VALUE, true);
        return x;
    }

    private static void dueRefused(String call, ToLongFunction<PartsAccumulator> made, long want) {
        PartsAccumulator x = state.get(), untouched = state.get();
        due(call, made.applyAsLong(x), want);
        due(call + " again", made.applyAsLong(x), want);
        dueSame("after " + call, x, untouched);
    }

    private static void dueSame(String when, PartsAccumulator x, PartsAccumulator untouched) {
        Told told = new Told(x), other = new Told(untouched);
        for (int i = 0; i < told.answers.size() && i < other.answers.size(); i++) {
            due(told.calls.get(i) + " " + when, told.answers.get(i), other.answers.get(i));
        }
        due("the number of answers " + when, told.answers.size(), other.answers.size());
    }

    /** All that an object tells of itself, and what it answers when it is used further. */
    private static final class Told {
        final List<String> calls = new ArrayList<>();
        final List<Long> answers = new ArrayList<>();
        private final PartsAccumulator x;

        Told(PartsAccumulator x) {
            this.x = x;
            everything();
            furtherUse();
            everything();
        }

        private void tell(String call, long answer) {
            calls.add(call);
            answers.add(answer);
        }

        private void everything() {
            for (int k = 0; k < 3; k++) {
                tell("size(" + k + ")", x.size(k));
            }
            tell("hand(true)", x.hand(true));
            tell("hand(false)", x.hand(false));
            tell("factor()", x.factor());
            for (long s : WATCHED) {
                tell("state(" + s + ")", x.state(s));
                tell("witness(" + s + ", true)", x.witness(s, true));
                tell("witness(" + s + ", false)", x.witness(s, false));
            }
            for (int e = 0; e <= Math.max(x.size(2), 0) + 1; e++) {
                tell("accumulator(" + e + ", true)", x.accumulator(e, true));
                tell("accumulator(" + e + ", false)", x.accumulator(e, false));
                notes(e);
            }
        }

        private void notes(int e) {
            for (int what = 0; what < 2; what++) {
                int count = x.note(e, what, 0);
                tell("note(" + e + ", " + what + ", 0)", count);
                for (int i = 0; i < count; i++) {
                    tell("note(" + e + ", " + (what + 2) + ", " + i + ")", x.note(e, what + 2, i));
                }
            }
        }

        private void furtherUse() {
            tell("modulus(N)", give(x, N) ? 1 : 0);
            tell("check(5, 2)", x.check(5, 2));
            tell("checkExclude(0, 3)", x.checkExclude(0, 3));
            tell("close()", x.close());
            tell("advance(5, 2)", x.advance(5, 2));
            tell("hand(false)", x.hand(false));
            tell("hold(N)", x.hold(Model.word(N, true), Model.word(N, false), 0) ? 1 : 0);
            tell("hold(N - 1)", x.hold(Model.word(N, true), Model.word(N, false) - 1, 9) ? 1 : 0);
            for (long s : WATCHED) {
                tell("add(" + s + ")", x.add(s));
            }
            for (int i = 0; i < WATCHED.length; i += 2) {
                tell("remove(" + WATCHED[i] + ")", x.remove(WATCHED[i]));
            }
            tell("close()", x.close());
        }
    }

    private static void refusedWithoutModulus() {
        dueRefused("add(5)", x -> x.add(5), NONE);
        dueRefused("remove(5)", x -> x.remove(5), NONE);
        dueRefused("close()", x -> x.close(), NONE);
        dueRefused("size(0)", x -> x.size(0), NONE);
        dueRefused("state(5)", x -> x.state(5), NONE);
        dueRefused("accumulator(0, true)", x -> x.accumulator(0, true), 0);
        dueRefused("note(1, 0, 0)", x -> x.note(1, 0, 0), NONE);
        dueRefused("witness(5, false)", x -> x.witness(5, false), 0);
        dueRefused("issue(5)", x -> x.issue(5), NONE);
        dueRefused("hold(0, 5, 7)", x -> x.hold(0, 5, 7) ? YES : NO, NO);
        dueRefused("hand(false)", x -> x.hand(false), 0);
        dueRefused("factor()", x -> x.factor(), NONE);
        dueRefused("check(5, 0)", x -> x.check(5, 0), NONE);
        dueRefused("advance(5, 0)", x -> x.advance(5, 0), NONE);
        dueRefused("exclude(5)", x -> x.exclude(5), NONE);
        dueRefused("checkExclude(5, 0)", x -> x.checkExclude(5, 0), NONE);
        dueRefused("prime(-1)", x -> x.prime(-1), BAD);
    }

    private static void refusedModulus() {
        dueRefused("modulus(2^100 - 3)", x -> x.modulus((1L << 36) - 1, -3) ? YES : NO, NO);
        dueRefused("modulus(2^128 - 2)", x -> x.modulus(-1, -2) ? YES : NO, NO);
        dueRefused("modulus(2^128 - 1)", x -> x.modulus(-1, -1) ? YES : NO, NO);
        dueRefused("modulus(0)", x -> x.modulus(0, 0) ? YES : NO, NO);
    }

    private static void refusedSecondModulus() {
        dueRefused("modulus(N)", x -> give(x, N) ? YES : NO, NO);
        dueRefused("modulus(2^100 + 1)", x -> give(x, LEAST_N) ? YES : NO, NO);
        dueRefused("modulus(2^128 - 3)", x -> give(x, GREATEST_N) ? YES : NO, NO);
        dueRefused("modulus(0)", x -> x.modulus(0, 0) ? YES : NO, NO);
    }

    private static void refusedSerials() {
        for (long s : NO_SERIALS) {
            dueRefused("prime(" + s + ")", x -> x.prime(s), BAD);
            dueRefused("add(" + s + ")", x -> x.add(s), BAD);
            dueRefused("remove(" + s + ")", x -> x.remove(s), BAD);
            dueRefused("state(" + s + ")", x -> x.state(s), BAD);
            dueRefused("witness(" + s + ", true)", x -> x.witness(s, true), 0);
            dueRefused("issue(" + s + ")", x -> x.issue(s), BAD);
            dueRefused("check(" + s + ", 0)", x -> x.check(s, 0), BAD);
            dueRefused("advance(" + s + ", 0)", x -> x.advance(s, 0), BAD);
            dueRefused("exclude(" + s + ")", x -> x.exclude(s), BAD);
            dueRefused("checkExclude(" + s + ", 0)", x -> x.checkExclude(s, 0), BAD);
        }
    }

    private static void refusedEpochs() {
        for (int e : new int[] {-1, state.get().size(2) + 1, 17, Integer.MAX_VALUE, Integer.MIN_VALUE}) {
            dueRefused("accumulator(" + e + ", false)", x -> x.accumulator(e, false), 0);
            dueRefused("note(" + e + ", 0, 0)", x -> x.note(e, 0, 0), BAD);
            dueRefused("check(5, " + e + ")", x -> x.check(5, e), BAD);
            dueRefused("advance(5, " + e + ")", x -> x.advance(5, e), BAD);
            dueRefused("checkExclude(5, " + e + ")", x -> x.checkExclude(5, e), BAD);
        }
    }

    private static void refusedKinds() {
        for (int k : new int[] {-1, 3, Integer.MAX_VALUE, Integer.MIN_VALUE}) {
            dueRefused("size(" + k + ")", x -> x.size(k), BAD);
            dueRefused("note(1, 2, " + (k < 3 ? k : 10) + ")", x -> x.note(1, 2, k < 3 ? k : 10), BAD);
            dueRefused("note(1, " + (k < 3 ? k : 4) + ", 0)", x -> x.note(1, k < 3 ? k : 4, 0), BAD);
        }
        dueRefused("note(0, 0, 0)", x -> x.note(0, 0, 0), BAD);
    }

    private static void refusedHold() {
        long upper = Model.word(N, true), lower = Model.word(N, false);
        dueRefused("hold(N, 5)", x -> x.hold(upper, lower, 5) ? YES : NO, NO);
        dueRefused("hold(N + 1, 5)", x -> x.hold(upper, lower + 1, 5) ? YES : NO, NO);
        dueRefused("hold(2^128 - 1, 5)", x -> x.hold(-1, -1, 5) ? YES : NO, NO);
        dueRefused("hold(5, -1)", x -> x.hold(0, 5, -1) ? YES : NO, NO);
        dueRefused("hold(5, -2^31)", x -> x.hold(0, 5, Integer.MIN_VALUE) ? YES : NO, NO);
    }

    private static void onlyAsked() {
        PartsAccumulator x = state.get(), untouched = state.get();
        int now = x.size(2);
        for (long s : WATCHED) {
            x.prime(s);
            x.state(s);
            x.witness(s, true);
            x.check(s, now);
            x.checkExclude(s, now);
        }
        x.check(5, 0);
        x.checkExclude(5, 0);
        for (int k = 0; k < 4; k++) {
            x.size(k);
            x.note(now, k, 0);
        }
        x.accumulator(now, true);
        x.hand(true);
        x.factor();
        dueSame("after calls that only ask", x, untouched);
    }

    private static void refusedAtFirst() {
        dueRefused("remove(5)", x -> x.remove(5), ABSENT);
        dueRefused("witness(5, false)", x -> x.witness(5, false), 0);
        dueRefused("issue(5)", x -> x.issue(5), ABSENT);
        dueRefused("advance(5, 0)", x -> x.advance(5, 0), ABSENT);
        dueRefused("note(0, 0, 0)", x -> x.note(0, 0, 0), BAD);
    }

    private static void refusedPending() {
        dueRefused("add(1)", x -> x.add(1), PRESENT);
        dueRefused("add(5)", x -> x.add(5), PRESENT);
        dueRefused("add(802)", x -> x.add(OTHER_TWIN), CLASH);
        dueRefused("remove(0)", x -> x.remove(0), ABSENT);
        dueRefused("remove(6)", x -> x.remove(6), ABSENT);
        dueRefused("remove(802)", x -> x.remove(OTHER_TWIN), ABSENT);
    }

    private static void refusedIssue() {
        for (long s : new long[] {0, 1, 10, OTHER_TWIN}) {
            dueRefused("witness(" + s + ", false)", x -> x.witness(s, false), 0);
            dueRefused("issue(" + s + ")", x -> x.issue(s), ABSENT);
        }
    }

    private static void refusedAdvance() {
        dueRefused("advance(5, 0)", x -> x.advance(5, 0), ABSENT);
        dueRefused("advance(6, 2)", x -> x.advance(6, 2), ABSENT);
        dueRefused("advance(10, 1)", x -> x.advance(10, 1), ABSENT);
        dueRefused("advance(1, 3)", x -> x.advance(1, 3), ABSENT);
        dueRefused("advance(802, 1)", x -> x.advance(OTHER_TWIN, 1), ABSENT);
        dueRefused("advance(5, 1)", x -> x.advance(5, 1), WRONG);
        dueRefused("advance(5, 3)", x -> x.advance(5, 3), WRONG);
        dueRefused("advance(519, 2)", x -> x.advance(TWIN, 2), WRONG);
    }

    private static void refusedExclude() {
        dueRefused("exclude(5)", x -> x.exclude(5), PRESENT);
        dueRefused("exclude(6)", x -> x.exclude(6), PRESENT);
        dueRefused("exclude(519)", x -> x.exclude(TWIN), PRESENT);
        dueRefused("exclude(802)", x -> x.exclude(OTHER_TWIN), CLASH);
    }

    private static void refusedAdvanceOfProof() {
        dueRefused("advance(5, 2)", x -> x.advance(5, 2), WRONG);
        dueRefused("advance(5, 1)", x -> x.advance(5, 1), WRONG);
        dueRefused("advance(0, 3)", x -> x.advance(0, 3), ABSENT);
        dueRefused("exclude(5)", x -> x.exclude(5), PRESENT);
        dueRefused("exclude(802)", x -> x.exclude(OTHER_TWIN), CLASH);
        dueRefused("issue(0)", x -> x.issue(0), ABSENT);
    }

    private static void refusedWhenTen() {
        dueRefused("add(10)", x -> x.add(10), FULL);
        dueRefused("add(0)", x -> x.add(0), FULL);
        dueRefused("add(519)", x -> x.add(TWIN), PRESENT);
        dueRefused("add(2^40 - 1)", x -> x.add(LAST_SERIAL), PRESENT);
        dueRefused("add(802)", x -> x.add(OTHER_TWIN), CLASH);
        dueRefused("remove(802)", x -> x.remove(OTHER_TWIN), ABSENT);
        dueRefused("issue(2^40 - 1)", x -> x.issue(LAST_SERIAL), ABSENT);
        dueRefused("exclude(802)", x -> x.exclude(OTHER_TWIN), CLASH);
    }

    private static void refusedClose() {
        dueRefused("close()", x -> x.close(), FULL);
    }
}
