import java.math.BigDecimal;
import java.math.BigInteger;
import java.util.ArrayList;
import java.util.List;
import java.util.Random;

/** Promise 12: what comes must be a value of the TYPE, just so; held against Java's own numbers. */
public final class NumbersTest {
    private static final Due DUE = new Due("NumbersTest");
    private static final int FLOAT = 6, DOUBLE = 7;

    public static void main(String[] args) {
        List<List<Long>> values = new ArrayList<>();
        for (int type = 0; type < 8; type++) {
            values.add(valuesOf(type));
        }
        for (int from = 0; from < 8; from++) {
            for (int to = 0; to < 8; to++) {
                carryAll(from, to, values.get(from), false);
                carryAll(from, to, values.get(from), true);
            }
        }
        for (int to = 0; to < 8; to++) {
            workAll(to, values.get(5));
        }
        DUE.end();
    }

    /** What bits of a TYPE become in another one, or null. */
    static Long turned(long bits, int from, int to) {
        if (from < FLOAT) {
            return fromWhole(BigInteger.valueOf(bits), to);
        }
        double wide = from == FLOAT ? Float.intBitsToFloat((int) bits) : Double.longBitsToDouble(bits);
        if (to == DOUBLE) {
            return Double.doubleToLongBits(wide);
        }
        if (to == FLOAT) {
            float narrow = (float) wide;
            boolean isSame = Double.isNaN(wide) || Double.doubleToLongBits(narrow) == Double.doubleToLongBits(wide);
            return isSame ? (Long) (long) Float.floatToIntBits(narrow) : null;
        }
        boolean isWhole = !Double.isNaN(wide) && !Double.isInfinite(wide) && wide == Math.rint(wide);
        if (!isWhole || Double.doubleToLongBits(wide) == Long.MIN_VALUE) {
            return null;
        }
        return fromWhole(new BigDecimal(wide).toBigIntegerExact(), to);
    }

    private static Long fromWhole(BigInteger whole, int to) {
        if (to == FLOAT) {
            float narrow = whole.floatValue();
            boolean isSame = new BigDecimal(narrow).compareTo(new BigDecimal(whole)) == 0;
            return isSame ? (Long) (long) Float.floatToIntBits(narrow) : null;
        }
        if (to == DOUBLE) {
            double wide = whole.doubleValue();
            boolean isSame = new BigDecimal(wide).compareTo(new BigDecimal(whole)) == 0;
            return isSame ? (Long) Double.doubleToLongBits(wide) : null;
        }
        long[] least = {0, -128, -32768, 0, Integer.MIN_VALUE, Long.MIN_VALUE};
        long[] most = {1, 127, 32767, 65535, Integer.MAX_VALUE, Long.MAX_VALUE};
        boolean isIn = whole.compareTo(BigInteger.valueOf(least[to])) >= 0
                && whole.compareTo(BigInteger.valueOf(most[to])) <= 0;
        return isIn ? (Long) whole.longValue() : null;
    }

    private static List<Long> valuesOf(int type) {
        List<Long> all = new ArrayList<>();
        Random random = new Random(type);
        for (int i = 0; i < 64; i++) {
            for (long near = -2; near <= 2; near++) {
                long whole = (1L << i) + near;
                addAs(all, whole, type);
                addAs(all, -whole, type);
                addAs(all, (random.nextLong() | Long.MIN_VALUE) >> i, type);
                addAs(all, random.nextLong() >>> i, type);
            }
        }
        if (type >= FLOAT) {
            addPowers(all, type, random);
        }
        return all;
    }

    /** The whole number itself, and as the nearest number of a TYPE that has fractions. */
    private static void addAs(List<Long> all, long whole, int type) {
        if (type == FLOAT) {
            all.add((long) Float.floatToIntBits((float) whole));
        } else if (type == DOUBLE) {
            all.add(Double.doubleToLongBits((double) whole));
        } else if (fromWhole(BigInteger.valueOf(whole), type) != null) {
            all.add(whole);
        }
    }

    private static void addPowers(List<Long> all, int type, Random random) {
        double[] some = {0.0, -0.0, 0.5, 1.5, 0.1, Double.NaN, Double.POSITIVE_INFINITY, Double.NEGATIVE_INFINITY,
            Double.MIN_VALUE, Double.MAX_VALUE, Float.MIN_VALUE, Float.MAX_VALUE, Double.MIN_NORMAL, Float.MIN_NORMAL,
            0x1p63, -0x1p63, 0x1p64, 0x1.0000000000001p63, -0x1.0000000000001p63, 0x1.fffffffffffffp62,
            0x1.fffffep127, 0x1.ffffffp127, 0x1p128, 0x1p-149, 0x1p-150, 0x1.8p-149, 0x1.8p-148, 0x1.fffffcp-127,
            0x1.fffffep-127, 0x1.000002p-126, 0x1.000001p-126, 65535.5, 255.0, 4503599627370496.5, 4503599627370497.5};
        for (double one : some) {
            all.add(bitsAs(one, type));
            all.add(bitsAs(-one, type));
        }
        for (int power = -160; power <= 160; power++) {
            double base = Math.scalb(1.0, power);
            for (int low = 20; low <= 30; low++) {
                all.add(bitsAs(base + Math.scalb(1.0, power - low), type));
                all.add(bitsAs(-base - Math.scalb(1.0, power - low), type));
            }
            all.add(bitsAs(base * (1 + random.nextInt(1 << 24) * 0x1p-23), type));
            all.add(bitsAs(base * (1 + random.nextDouble()), type));
        }
        for (int i = 0; i < 500; i++) {
            all.add(type == FLOAT ? Float.floatToIntBits(Float.intBitsToFloat(random.nextInt()))
                    : Double.doubleToLongBits(Double.longBitsToDouble(random.nextLong())));
        }
    }

    private static long bitsAs(double wide, int type) {
        return type == FLOAT ? Float.floatToIntBits((float) wide) : Double.doubleToLongBits(wide);
    }

    private static StateMoves fresh(int from, int to, boolean rows, String rule) {
        StateMoves x = new StateMoves();
        Due.type(x, 0, "a", "x:" + from + (rows ? "[]" : ""));
        Due.type(x, 1, "a", "x:" + to + (rows ? "[]" : ""));
        x.value(1, 0);
        Due.rules(x, 0, 1, rule);
        return x;
    }

    private static void carryAll(int from, int to, List<Long> values, boolean rows) {
        StateMoves x = null;
        int calls = 512;
        for (long bits : values) {
            if (calls > 490) {
                x = fresh(from, to, rows, "");
                calls = 20;
            }
            x.begin(0);
            x.value(1, 0);
            String what = "TYPE " + from + " to " + to + ", " + bits;
            DUE.is(what, rows ? x.add(1, 0, bits) : x.set(1, 0, bits), 1);
            answer(what, x, turned(bits, from, to));
            calls += 6;
        }
    }

    private static void workAll(int to, List<Long> values) {
        StateMoves x = null;
        int calls = 512;
        for (long bits : values) {
            if (calls > 490) {
                x = fresh(5, to, false, "move a to a{x=(x);}");
                calls = 20;
            }
            x.begin(0);
            x.value(1, 0);
            x.set(1, 0, bits);
            answer("worked out, to " + to + ", " + bits, x, turned(bits, 5, to));
            calls += 6;
        }
    }

    private static void answer(String what, StateMoves x, Long due) {
        DUE.is(what, x.carry(1), due == null ? StateMoves.NONE : 1);
        if (due != null) {
            DUE.is(what + ", its bits", x.bits(1, 0, 0), due);
        } else {
            DUE.is(what + ", why", x.refused(0), 1);
        }
    }
}
