/** What E works out, and what comes to a TYPE: each sentence of CARRYING that names an edge there. */
public final class EdgesOfWorkTest {
    private static final Due DUE = new Due("EdgesOfWorkTest");
    private static final int NONE = StateMoves.NONE;
    private static final long LEAST = Long.MIN_VALUE, MOST = Long.MAX_VALUE;

    public static void main(String[] args) {
        beyondLongs();
        withinLongs();
        byZero();
        cutsOffAndSigns();
        indexOfNothing();
        howManyAndTruth();
        fromTheLeft();
        wholeToWhole();
        rowsJustSo();
        wholeToFractions();
        floatAndDouble();
        fractionsToWhole();
        toTruth();
        DUE.end();
    }

    private static void refused(String what, StateMoves x, long... due) {
        for (int i = 0; i < 4; i++) {
            DUE.is(what + ": refused(" + i + ")", x.refused(i), due[i]);
        }
        DUE.is(what + ": refusedKey(false)", x.refusedKey(false), due[4]);
        DUE.is(what + ": refusedKey(true)", x.refusedKey(true), due[5]);
    }

    /** One VALUE of KEY 7 in BUILD 0, of a CLASS with x y LONG, t TRUTH, r LONG in ARRAYS (8, 1, -1), e (empty), s (full). */
    private static StateMoves forWork(String work) {
        StateMoves x = new StateMoves();
        Due.type(x, 0, "a", "x:5 y:5 t:0 r:5[] e:5[] s:1[] b:1 c:3");
        Due.type(x, 1, "a", "o:5");
        x.value(7, 0);
        x.set(7, 0, LEAST);
        x.set(7, 1, MOST);
        x.set(7, 2, 1);
        x.add(7, 3, 8);
        x.add(7, 3, 1);
        x.add(7, 3, -1);
        for (int k = 0; k < 8; k++) {
            x.add(7, 5, k - 8);
        }
        x.set(7, 6, -128);
        x.set(7, 7, 65535);
        DUE.is("rules with " + work, Due.rules(x, 0, 1, "move a to a{o=" + work + ";}"), 1);
        return x;
    }

    private static void works(String work, long due) {
        StateMoves x = forWork(work);
        DUE.is("carry with " + work, x.carry(1), 1);
        DUE.is(work, x.bits(7, 0, 0), due);
    }

    private static void fails(int why, String... works) {
        for (String work : works) {
            StateMoves x = forWork(work);
            DUE.is("carry with " + work, x.carry(1), NONE);
            refused(work, x, why, 0, 0, 0, 7, 0);
            x = new StateMoves();
            Due.type(x, 0, "u", "");
            Due.type(x, 0, "a", "x:5 y:5 t:0 r:5[] e:5[] s:1[]");
            Due.type(x, 1, "a", "o:5");
            x.value(7, 1);
            x.set(7, 0, LEAST);
            x.set(7, 1, MOST);
            x.set(7, 2, 1);
            x.add(7, 3, 8);
            x.add(7, 3, 1);
            x.add(7, 3, -1);
            for (int k = 0; k < 8; k++) {
                x.add(7, 5, k - 8);
            }
            Due.rules(x, 0, 1, "move a to a{o=" + work + ";key=" + work + ";}");
            DUE.is("dry with a KEY of " + work, x.dry(1), NONE);
            refused("of the KEY, " + work, x, why, 1, NONE, 0, 7, 0);
        }
    }

    private static void beyondLongs() {
        DUE.sentence("REFUSED 2 if one is beyond them (also the least one / -1)");
        fails(2, "y+1", "1+y", "y+y", "x+x", "x+-1", "x-1", "-2-y", "0-x", "y-x", "y- -1");
        fails(2, "-x", "x*-1", "-1*x", "x*2", "2*x", "y*2", "y*-2", "x*x", "x*y", "y*y", "x/-1");
        fails(2, "3037000500*3037000500".replace("3037000500", "(3*1012333500)"), "-(x/2)*2", "x/2*-2");
        fails(2, "y+1-1", "(x-1)*0", "x*2/2", "x/-1*0", "-x*0", "#e*-x");
    }

    private static void withinLongs() {
        DUE.sentence("E is worked out in LONGS");
        works("x+0", LEAST);
        works("y-0", MOST);
        works("x+y", -1);
        works("x+1-1", LEAST);
        works("y-1+1", MOST);
        works("-y", -MOST);
        works("-y-1", LEAST);
        works("-1-y", LEAST);
        works("x- -1", -MOST);
        works("-(x+1)", MOST);
        works("-1-x", MOST);
        works("x*1", LEAST);
        works("1*x", LEAST);
        works("x*0", 0);
        works("0*x", 0);
        works("y*-1", -MOST);
        works("x/2*2", LEAST);
        works("-2*(x/-2)", LEAST);
        works("(x/2)*-1*-2", LEAST);
        works("x/1", LEAST);
        works("y/-1", -MOST);
        works("x%-1", 0);
        works("y%-1", 0);
        works("x%1", 0);
        works("x%y", -1);
        works("y%x", MOST);
        works("2147483647*2147483647", 2147483647L * 2147483647L);
        works("(3*1012333499)*(3*1012333499)", 3037000497L * 3037000497L);
        works("2147483647+1", 2147483648L);
    }

    private static void byZero() {
        DUE.sentence("4 by 0");
        fails(4, "1/0", "0/0", "x/0", "y/0", "1%0", "0%0", "x%0", "y%0", "1/(t-1)", "1%#e", "x/(y-y)", "0*(1/0)");
        works("0/1", 0);
        works("0%1", 0);
    }

    private static void cutsOffAndSigns() {
        DUE.sentence("/ cuts off, % has the sign of the first");
        works("7/2", 3);
        works("-7/2", -3);
        works("7/-2", -3);
        works("-7/-2", 3);
        works("1/2", 0);
        works("-1/2", 0);
        works("7%2", 1);
        works("-7%2", -1);
        works("7%-2", 1);
        works("-7%-2", -1);
        works("6%3", 0);
        works("-6%3", 0);
        works("x/y", -1);
        works("y/x", 0);
    }

    private static void indexOfNothing() {
        DUE.sentence("5 an index where there is nothing");
        fails(5, "r[3]", "r[-1]", "r[8]", "r[x]", "r[y]", "r[2147483647]", "r[2147483647+1]", "r[2*2147483647+2]",
                "r[-2147483647-1]", "e[0]", "e[-1]", "s[8]", "s[-1]", "r[#r]", "r[r[0]]", "r[r[2]]", "0*e[0]");
        works("r[0]", 8);
        works("r[2]", -1);
        works("r[#r-1]", -1);
        works("s[0]", -8);
        works("s[7]", -1);
        works("r[r[1]]", 1);
        works("s[t]", -7);
    }

    private static void howManyAndTruth() {
        DUE.sentence("# is how many there are; a TRUTH is 0 or 1");
        works("#e", 0);
        works("#r", 3);
        works("#s", 8);
        works("-#s", -8);
        works("t", 1);
        works("(t)", 1);
        works("t+t", 2);
        works("-t", -1);
        works("(b)", -128);
        works("(c)", 65535);
        works("(key)", 7);
        works("key-8", -1);
    }

    private static void fromTheLeft() {
        DUE.sentence("E is worked out in LONGS, from the left");
        works("10-2-3", 5);
        works("100/10/5", 2);
        works("100/10*5", 50);
        works("7%4*2", 6);
        works("2*7%4", 2);
        works("1+2*3", 7);
        works("2*3+1", 7);
        works("20-2*3-4/2", 12);
        works("1-2*3%4+5", 4);
        works("x+y+1+y", MOST);
        works("1+2*(".repeat(20) + "3+4*5" + ")".repeat(20), (1L << 20) - 1 + 23 * (1L << 20));
        fails(2, "y+1+1/0", "y*2+e[0]", "r[0]*y/0");
        fails(4, "1/0+e[0]", "1/0+y*2", "1%0*(y+1)");
        fails(5, "e[0]+1/0", "e[0]+y*2", "r[e[0]]/0");
        fails(2, "y+1+1/1*e[0]");
        fails(5, "y+1*e[0]", "y+e[0]");
        againBehindRefused();
    }

    // What waited on the left as an E was REFUSED is not there any more for the next one.
    private static void againBehindRefused() {
        StateMoves x = new StateMoves();
        Due.type(x, 0, "a", "x:5");
        Due.type(x, 1, "a", "x:5");
        x.value(7, 0);
        Due.rules(x, 0, 1, "move a to a{x=" + "1+2*(".repeat(20) + "1+6/x" + ")".repeat(20) + ";}");
        for (int i = 0; i < 60; i++) {
            DUE.is("REFUSED", x.dry(1), NONE);
        }
        refused("by 0", x, 4, 0, 0, 0, 7, 0);
        x.set(7, 0, 2);
        DUE.is("carry", x.carry(1), 1);
        DUE.is("as it is due", x.bits(7, 0, 0), (5L << 20) - 1);
    }

    private static StateMoves forTypes(int from, int to, boolean rows) {
        StateMoves x = new StateMoves();
        Due.type(x, 0, "a", "n:4 x:" + from + (rows ? "[]" : ""));
        Due.type(x, 1, "a", "m:4 o:4 x:" + to + (rows ? "[]" : ""));
        x.rules(0, 1);
        return x;
    }

    private static void comes(int from, int to, long bits, long due) {
        StateMoves x = forTypes(from, to, false);
        x.value(1, 0);
        x.set(1, 1, bits);
        String what = "TYPE " + from + " to " + to + ", " + bits;
        DUE.is(what, x.carry(1), 1);
        DUE.is(what + ", its bits", x.bits(1, 2, 0), due);
    }

    private static void comesNot(int from, int to, long... some) {
        StateMoves x = forTypes(from, to, false);
        x.value(1, 0);
        for (long bits : some) {
            String what = "TYPE " + from + " to " + to + ", " + bits;
            DUE.is(what + ", set", x.set(1, 1, bits), 1);
            DUE.is(what, x.carry(1), NONE);
            refused(what, x, 1, 0, 2, 0, 1, 0);
        }
    }

    private static void wholeToWhole() {
        DUE.sentence("What comes must be a value of the TYPE, just so, else REFUSED 1");
        long[] least = {0, -128, -32768, 0, Integer.MIN_VALUE, LEAST};
        long[] most = {1, 127, 32767, 65535, Integer.MAX_VALUE, MOST};
        for (int from = 0; from <= 5; from++) {
            for (int to = 0; to <= 5; to++) {
                long low = Math.max(least[from], least[to]);
                long high = Math.min(most[from], most[to]);
                comes(from, to, low, low);
                comes(from, to, high, high);
                if (low > least[from]) {
                    comesNot(from, to, low - 1, least[from]);
                }
                if (high < most[from]) {
                    comesNot(from, to, high + 1, most[from]);
                }
            }
        }
        comesNot(5, 4, 1L << 32, -(1L << 32));
        comesNot(5, 1, 256, 1L << 32);
        comesNot(5, 3, 65536, -65536);
        StateMoves x = new StateMoves();
        Due.type(x, 0, "a", "x:5");
        Due.type(x, 1, "a", "x:1");
        x.value(1, 0);
        long[] worked = {-129, 128, 256, LEAST};
        Due.rules(x, 0, 1, "move a to a{x=(x);}");
        for (long one : worked) {
            x.set(1, 0, one);
            DUE.is("worked out, " + one, x.carry(1), NONE);
            refused("worked out", x, 1, 0, 0, 0, 1, 0);
        }
        x.set(1, 0, -128);
        DUE.is("worked out, -128", x.carry(1), 1);
        DUE.is("its bits", x.bits(1, 0, 0), -128);
    }

    private static void rowsJustSo() {
        DUE.sentence("else REFUSED 1 (of rows one after the other)");
        for (int wrong = 0; wrong < 8; wrong++) {
            StateMoves x = forTypes(5, 1, true);
            x.value(1, 0);
            for (int k = 0; k < 8; k++) {
                x.add(1, 1, k == wrong ? 128 : 100 + k);
            }
            DUE.is("element " + wrong, x.carry(1), NONE);
            refused("element " + wrong, x, 1, 0, 2, 0, 1, 0);
            DUE.is("the row stays", x.many(1, 1), 8);
        }
        for (int many = 0; many <= 8; many++) {
            StateMoves x = forTypes(5, 1, true);
            x.value(1, 0);
            for (int k = 0; k < many; k++) {
                x.add(1, 1, 120 + k % 8 - 1);
            }
            DUE.is("a row of " + many, x.carry(1), 1);
            DUE.is("it has", x.many(1, 2), many);
            for (int k = 0; k < many; k++) {
                DUE.is("element " + k, x.bits(1, 2, k), 119 + k);
            }
            DUE.is("none behind", x.bits(1, 2, many), 0);
        }
    }

    private static long bits(float one) {
        return Float.floatToRawIntBits(one);
    }

    private static long bits(double one) {
        return Double.doubleToRawLongBits(one);
    }

    private static void wholeToFractions() {
        DUE.sentence("a whole number as a FLOAT or DOUBLE if that is just it");
        long[] floats = {0, 1, -1, 100, 1 << 24, -(1 << 24), (1 << 24) + 2, (1 << 24) - 1, 1L << 62, LEAST, 0xFFFFFFL << 39};
        for (long one : floats) {
            comes(5, 6, one, bits((float) one));
            comes(5, 7, one, bits((double) one));
        }
        comesNot(5, 6, (1 << 24) + 1, -(1 << 24) - 1, (1L << 25) + 2, MOST, LEAST + 1, 0x1FFFFFFL << 38, Integer.MAX_VALUE);
        long[] doubles = {1L << 53, -(1L << 53), (1L << 53) - 1, (1L << 53) + 2, 0x1FFFFFFFFFFFFFL << 10, Integer.MAX_VALUE};
        for (long one : doubles) {
            comes(5, 7, one, bits((double) one));
        }
        comesNot(5, 7, (1L << 53) + 1, -(1L << 53) - 1, (1L << 54) + 2, MOST, MOST - 1, LEAST + 1, 0x3FFFFFFFFFFFFFL << 9);
        comes(0, 6, 1, bits(1f));
        comes(0, 7, 1, bits(1.0));
        comes(1, 6, -128, bits(-128f));
        comes(3, 7, 65535, bits(65535.0));
        comes(4, 7, Integer.MIN_VALUE, bits(-2147483648.0));
        comes(4, 6, Integer.MIN_VALUE, bits(-2147483648f));
        comesNot(4, 6, Integer.MAX_VALUE);
    }

    private static void floatAndDouble() {
        DUE.sentence("of FLOAT to DOUBLE, and back, if it is just that (what is no number is; -0 stays)");
        float[] floats = {0f, -0f, 1f, -1.5f, 0.1f, Float.MIN_VALUE, -Float.MIN_VALUE, 0x1p-127f, 0x1.fffffcp-127f,
            Float.MIN_NORMAL, Float.MAX_VALUE, -Float.MAX_VALUE, Float.POSITIVE_INFINITY, Float.NEGATIVE_INFINITY};
        for (float one : floats) {
            comes(6, 7, bits(one), bits((double) one));
            comes(7, 6, bits((double) one), bits(one));
            comes(6, 6, bits(one), bits(one));
        }
        comes(6, 7, 0x7FC00000L, 0x7FF8000000000000L);
        comes(7, 6, 0x7FF8000000000000L, 0x7FC00000L);
        comes(6, 6, 0x7FC00000L, 0x7FC00000L);
        comes(7, 7, 0x7FF8000000000000L, 0x7FF8000000000000L);
        comes(7, 7, bits(-0.0), bits(-0.0));
        comes(7, 7, bits(0.1), bits(0.1));
        double[] none = {0.1, -0.1, Double.MIN_VALUE, -Double.MIN_VALUE, Double.MIN_NORMAL, Double.MAX_VALUE, 0x1p-150,
            0x1.8p-149, 0x1.fffffep-127, 0x1p128, -0x1p128, 0x1.ffffffp127, 0x1.0000001p0, 0x1.000001p0, 0x1.0000000000001p0};
        for (double one : none) {
            comesNot(7, 6, bits(one));
        }
    }

    private static void fractionsToWhole() {
        DUE.sentence("of one of these to a whole one if it is a whole number (not -0)");
        long[] least = {0, -128, -32768, 0, Integer.MIN_VALUE, LEAST};
        long[] most = {1, 127, 32767, 65535, Integer.MAX_VALUE, MOST};
        for (int to = 0; to <= 5; to++) {
            comes(6, to, bits(0f), 0);
            comes(7, to, bits(0.0), 0);
            comes(6, to, bits(1f), 1);
            comes(7, to, bits(1.0), 1);
            comes(6, to, bits((float) least[to]), least[to]);
            comes(7, to, bits((double) least[to]), least[to]);
            comesNot(6, to, bits(-0f), bits(0.5f), bits(1.5f), bits(-0.5f), 0x7FC00000L, bits(1 / 0f), bits(-1 / 0f), 1,
                    bits(Float.MAX_VALUE), bits(-Float.MAX_VALUE), bits(0x1p63f), bits(0x1p64f));
            comesNot(7, to, bits(-0.0), bits(0.5), bits(1.5), bits(-0.5), 0x7FF8000000000000L, bits(1 / 0.0),
                    bits(-1 / 0.0), 1, bits(0.9999999999999999), bits(Double.MAX_VALUE), bits(0x1p63), bits(0x1p64));
            if (to < 5) {
                comes(7, to, bits((double) most[to]), most[to]);
                comesNot(7, to, bits(most[to] + 1.0), bits(least[to] - 1.0), bits(most[to] + 0.5), bits(0x1p32), bits(-0x1p32));
            }
        }
        comes(7, 5, bits(0x1.fffffffffffffp62), 0x7FFFFFFFFFFFFC00L);
        comes(7, 5, bits(-0x1p63), LEAST);
        comes(7, 5, bits(0x1p53 - 1), (1L << 53) - 1);
        comes(7, 5, bits(-0x1p62), -(1L << 62));
        comes(6, 5, bits(0x1.fffffep62f), 0x7FFFFF8000000000L);
        comesNot(7, 5, bits(-0x1.0000000000001p63), bits(0x1p51 + 0.5), bits(-0x1p64));
    }

    private static void toTruth() {
        DUE.sentence("to TRUTH 0 and 1");
        long[] one = {1, 1, 1, 1, 1, 1, bits(1f), bits(1.0)};
        long[] two = {0, 2, 2, 2, 2, 2, bits(2f), bits(2.0)};
        long[] less = {0, -1, -1, 65535, -1, -1, bits(-1f), bits(-1.0)};
        for (int from = 0; from < 8; from++) {
            comes(from, 0, 0, 0);
            comes(from, 0, one[from], 1);
            if (from > 0) {
                comesNot(from, 0, two[from], less[from]);
            }
        }
        comesNot(5, 0, 1L << 32, (1L << 32) + 1, LEAST);
    }
}
