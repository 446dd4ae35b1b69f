/** Promises 4 to 7 and 17 to 21: THE STATE, what comes to it and what it tells. */
public final class StateTest {
    private static final Due DUE = new Due("StateTest");

    private static final long NAN = 0x7FF8000000000000L;
    private static final long INFINITY = 0x7FF0000000000000L;

    /** Of each TYPE, values at its edges. */
    private static final long[][] SOME = {
        {0, 1},
        {-128, -1, 0, 127},
        {-32768, 0, 32767},
        {0, 32768, 65535},
        {Integer.MIN_VALUE, -1, Integer.MAX_VALUE},
        {Long.MIN_VALUE, -1, Long.MAX_VALUE},
        {0, 1, 0x7F800000L, 0x7FC00000L, Integer.MIN_VALUE, -8388608, -8388609, Integer.MIN_VALUE + 1, 0x7F7FFFFFL},
        {0, 1, INFINITY, NAN, Long.MIN_VALUE, Long.MIN_VALUE | INFINITY, Long.MIN_VALUE | 1, INFINITY - 1},
    };

    /** Of each TYPE, bits that are no values of it. */
    private static final long[][] NO = {
        {-1, 2, 256, Long.MIN_VALUE, 1L << 32},
        {-129, 128, 255, 1L << 32, Long.MIN_VALUE},
        {-32769, 32768, 65535, 1L << 32, Long.MAX_VALUE},
        {-1, 65536, -32768, 1L << 32, Long.MIN_VALUE},
        {1L << 31, -(1L << 31) - 1, 0xFFFFFFFFL, Long.MIN_VALUE},
        {},
        {0x7F800001L, 0x7FBFFFFFL, 0x7FC00001L, 0x7FFFFFFFL, -8388607, -4194304, -1, 1L << 31, 1L << 32, 0xFFC00000L,
            NAN, Long.MIN_VALUE, 0x17FC00000L},
        {INFINITY + 1, NAN - 1, NAN + 1, Long.MAX_VALUE, -1, Long.MIN_VALUE | NAN, (Long.MIN_VALUE | INFINITY) + 1},
    };

    public static void main(String[] args) {
        begins();
        values();
        keysInOrder();
        sets();
        adds();
        tells();
        DUE.end();
    }

    private static StateMoves withAllTypes() {
        StateMoves x = new StateMoves();
        Due.type(x, 0, "one", "a:0 b:1 c:2 d:3 e:4 f:5 g:6 h:7");
        Due.type(x, 0, "row", "a:0[] b:1[] c:2[] d:3[] e:4[] f:5[] g:6[] h:7[]");
        Due.type(x, 3, "far", "");
        return x;
    }

    private static void begins() {
        StateMoves x = withAllTypes();
        DUE.is("no build 8", x.begin(8), StateMoves.BAD);
        DUE.is("no build -1", x.begin(-1), StateMoves.BAD);
        x.value(1, 0);
        x.value(2, 0);
        x.begin(8);
        DUE.is("BAD changes nothing", x.told(1), 2);
        DUE.is("begin(3)", x.begin(3), 2);
        DUE.is("THE STATE's BUILD", x.told(0), 3);
        DUE.is("no KEY any more", x.key(0), 0);
        DUE.is("no VALUE any more", x.classOf(1), StateMoves.NONE);
        DUE.is("its VALUES", x.told(1), 0);
        DUE.is("a CLASS of that BUILD", x.value(1, 0), 1);
        DUE.is("no CLASS of that BUILD", x.value(2, 1), StateMoves.BAD);
        DUE.is("begin of the same", x.begin(3), 1);
        DUE.is("begin once more", x.begin(3), 0);
        DUE.is("begin(7)", x.begin(7), 0);
        DUE.is("told(0)", x.told(0), 7);
    }

    private static void values() {
        StateMoves x = withAllTypes();
        DUE.is("no class", x.value(1, 2), StateMoves.BAD);
        DUE.is("no class", x.value(1, -1), StateMoves.BAD);
        DUE.is("no class", x.value(1, Integer.MAX_VALUE), StateMoves.BAD);
        for (int i = 0; i < 60; i++) {
            DUE.is("value " + i, x.value(i * 7 % 60, i % 2), i + 1);
        }
        DUE.is("one of the KEY", x.value(5, 0), StateMoves.STATE);
        DUE.is("one more", x.value(60, 0), StateMoves.FULL);
        DUE.is("BAD ahead of STATE", x.value(5, 9), StateMoves.BAD);
        DUE.is("BAD ahead of FULL", x.value(60, 9), StateMoves.BAD);
        x.set(0, 4, 9);
        x.begin(0);
        x.value(0, 0);
        DUE.is("first values again", x.bits(0, 4, 0), 0);
        x.value(7, 1);
        for (int m = 0; m < 8; m++) {
            DUE.is("a first value", x.bits(0, m, 0), 0);
            DUE.is("no row", x.many(7, m), 0);
        }
    }

    private static void keysInOrder() {
        StateMoves x = withAllTypes();
        long[] keys = {5, -1, Long.MAX_VALUE, 0, Long.MIN_VALUE, 1L << 40, -7};
        long[] sorted = {Long.MIN_VALUE, -7, -1, 0, 5, 1L << 40, Long.MAX_VALUE};
        for (int i = 0; i < keys.length; i++) {
            x.value(keys[i], i % 2);
        }
        for (int i = 0; i < keys.length; i++) {
            DUE.is("key(" + i + ")", x.key(i), sorted[i]);
            DUE.is("classOf(" + keys[i] + ")", x.classOf(keys[i]), i % 2);
        }
        DUE.is("key behind", x.key(keys.length), 0);
        DUE.is("key ahead", x.key(-1), 0);
        DUE.is("key far behind", x.key(Integer.MAX_VALUE), 0);
        DUE.is("classOf of none", x.classOf(6), StateMoves.NONE);
    }

    private static void sets() {
        StateMoves x = withAllTypes();
        x.value(1, 0);
        x.value(2, 1);
        for (int type = 0; type < 8; type++) {
            long kept = 0;
            for (long bits : SOME[type]) {
                DUE.is("set of TYPE " + type + " to " + bits, x.set(1, type, bits), 1);
                DUE.is("its bits", x.bits(1, type, 0), bits);
                kept = bits;
            }
            for (long bits : NO[type]) {
                DUE.is("set of TYPE " + type + " to " + bits, x.set(1, type, bits), StateMoves.NONE);
                DUE.is("it stays", x.bits(1, type, 0), kept);
            }
        }
        DUE.is("no such VALUE", x.set(3, 0, 0), StateMoves.BAD);
        DUE.is("no member 8", x.set(1, 8, 0), StateMoves.BAD);
        DUE.is("no member -1", x.set(1, -1, 0), StateMoves.BAD);
        DUE.is("in ARRAYS", x.set(2, 0, 0), StateMoves.BAD);
        DUE.is("BAD ahead of NONE", x.set(2, 0, 2), StateMoves.BAD);
    }

    private static void adds() {
        StateMoves x = withAllTypes();
        x.value(1, 0);
        x.value(2, 1);
        for (int type = 0; type < 8; type++) {
            for (long bits : NO[type]) {
                DUE.is("add of TYPE " + type + " " + bits, x.add(2, type, bits), StateMoves.NONE);
            }
            for (int i = 0; i < 8; i++) {
                long bits = SOME[type][i % SOME[type].length];
                DUE.is("add of TYPE " + type + " " + bits, x.add(2, type, bits), i + 1);
                DUE.is("its bits", x.bits(2, type, i), bits);
                DUE.is("how many", x.many(2, type), i + 1);
            }
            DUE.is("a ninth", x.add(2, type, 0), StateMoves.FULL);
            for (long bits : NO[type]) {
                DUE.is("NONE ahead of FULL", x.add(2, type, bits), StateMoves.NONE);
            }
        }
        DUE.is("no such VALUE", x.add(3, 0, 0), StateMoves.BAD);
        DUE.is("no member 8", x.add(2, 8, 0), StateMoves.BAD);
        DUE.is("no member -1", x.add(2, -1, 0), StateMoves.BAD);
        DUE.is("not in ARRAYS", x.add(1, 0, 0), StateMoves.BAD);
        DUE.is("BAD ahead of NONE", x.add(1, 0, 2), StateMoves.BAD);
    }

    private static void tells() {
        StateMoves x = withAllTypes();
        x.value(1, 0);
        x.value(2, 1);
        x.set(1, 5, 77);
        x.add(2, 5, 7);
        x.add(2, 5, 8);
        DUE.is("told(1)", x.told(1), 2);
        DUE.is("told(3)", x.told(3), StateMoves.BAD);
        DUE.is("told(-1)", x.told(-1), StateMoves.BAD);
        x.rules(1, 2);
        x.rules(2, 1);
        x.rules(2, 1);
        DUE.is("told(2)", x.told(2), 2);
        DUE.is("many, not in ARRAYS", x.many(1, 5), 1);
        DUE.is("many, no such VALUE", x.many(3, 0), StateMoves.BAD);
        DUE.is("many, no member 8", x.many(1, 8), StateMoves.BAD);
        DUE.is("many, no member -1", x.many(1, -1), StateMoves.BAD);
        DUE.is("bits", x.bits(1, 5, 0), 77);
        DUE.is("bits, k 1, not in ARRAYS", x.bits(1, 5, 1), 0);
        DUE.is("bits, k -1, not in ARRAYS", x.bits(1, 5, -1), 0);
        DUE.is("bits of element 1", x.bits(2, 5, 1), 8);
        DUE.is("bits of element 2", x.bits(2, 5, 2), 0);
        DUE.is("bits of element -1", x.bits(2, 5, -1), 0);
        DUE.is("bits of element 8", x.bits(2, 5, 8), 0);
        DUE.is("bits, no such VALUE", x.bits(3, 5, 0), 0);
        DUE.is("bits, no member", x.bits(1, 8, 0), 0);
        DUE.is("bits, no member", x.bits(1, -1, 0), 0);
    }
}
