import java.lang.reflect.Constructor;
import java.lang.reflect.Field;
import java.lang.reflect.Method;
import java.math.BigInteger;
import java.util.ArrayList;
import java.util.List;
import java.util.Random;

/**
 * What no run of calls of a bearable length meets, so that the test looks at the classes inside: products modulo N
 * of numbers whose limbs bring about the rarest carries, and the end of the counters of a serial's prime.
 */
public final class ArithmeticTest {
    private static final BigInteger ONE = BigInteger.ONE, TOP = ONE.shiftLeft(128);
    private static final Dues DUES = new Dues();
    private static final Random RANDOM = new Random(1);

    public static void main(String[] args) throws ReflectiveOperationException {
        for (BigInteger n : moduli()) {
            products(n);
        }
        DUES.sentence("a counter c from 0 to 255", () -> DUES.due("how many counters", counters(), 256));
        DUES.end();
    }

    private static int counters() {
        try {
            Field field = Class.forName("PartsAccumulator$SerialPrimes").getDeclaredField("COUNTERS");
            field.setAccessible(true);
            return field.getInt(null);
        } catch (ReflectiveOperationException e) {
            throw new IllegalStateException(e);
        }
    }

    private static List<BigInteger> moduli() {
        List<BigInteger> all = new ArrayList<>();
        for (int i = 1; i < 60; i += 2) {
            all.add(TOP.subtract(BigInteger.valueOf(i)));
            all.add(ONE.shiftLeft(100).add(BigInteger.valueOf(i)));
            all.add(ONE.shiftLeft(127).add(BigInteger.valueOf(i - 30)).setBit(0));
            all.add(TOP.subtract(ONE.shiftLeft(96)).add(BigInteger.valueOf(i)));
            all.add(TOP.subtract(ONE.shiftLeft(32)).add(BigInteger.valueOf(i)));
            all.add(new BigInteger(128, RANDOM).setBit(100).setBit(0));
        }
        all.removeIf(n -> n.mod(Model.THREE).signum() == 0);
        return all;
    }

    private static List<BigInteger> numbers(BigInteger n) {
        List<BigInteger> all = new ArrayList<>();
        for (int i = 0; i < 6; i++) {
            all.add(BigInteger.valueOf(i));
            all.add(n.subtract(BigInteger.valueOf(i + 1)));
            all.add(new BigInteger(128, RANDOM).mod(n));
        }
        for (int shift = 32; shift <= 96; shift += 32) {
            all.add(ONE.shiftLeft(shift));
            all.add(ONE.shiftLeft(shift).subtract(ONE));
            all.add(n.subtract(ONE.shiftLeft(shift)));
            all.add(n.shiftRight(shift).shiftLeft(shift).subtract(ONE));
        }
        return all;
    }

    private static void products(BigInteger n) throws ReflectiveOperationException {
        Class<?> type = Class.forName("PartsAccumulator$Ring");
        Constructor<?> make = type.getDeclaredConstructor();
        make.setAccessible(true);
        Object ring = make.newInstance();
        method(type, "begin", long.class, long.class).invoke(ring, Model.word(n, true), Model.word(n, false));
        Method multiply = method(type, "multiply", long[].class, long[].class, long[].class);
        for (BigInteger x : numbers(n)) {
            for (BigInteger y : numbers(n)) {
                long[] out = new long[4];
                multiply.invoke(ring, limbs(x), limbs(y), out);
                DUES.due(x + " times " + y + " modulo " + n, number(out).equals(x.multiply(y).mod(n)), true);
            }
        }
    }

    private static Method method(Class<?> type, String name, Class<?>... parameters) throws ReflectiveOperationException {
        Method found = type.getDeclaredMethod(name, parameters);
        found.setAccessible(true);
        return found;
    }

    private static long[] limbs(BigInteger x) {
        long[] limbs = new long[4];
        for (int i = 0; i < 4; i++) {
            limbs[i] = x.shiftRight(32 * i).longValue() & 0xffffffffL;
        }
        return limbs;
    }

    private static BigInteger number(long[] limbs) {
        BigInteger x = BigInteger.ZERO;
        for (int i = 3; i >= 0; i--) {
            x = x.shiftLeft(32).add(BigInteger.valueOf(limbs[i]));
        }
        return x;
    }
}
