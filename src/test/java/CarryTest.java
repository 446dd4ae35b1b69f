/** Promises 11 to 16: unknown, carry, dry, refused, refusedKey, lost. */
public final class CarryTest {
    private static final Due DUE = new Due("CarryTest");

    public static void main(String[] args) {
        unknownOnes();
        badAndState();
        keysAndMembers();
        defaults();
        drops();
        dryStays();
        work();
        refusedWork();
        refusedTypes();
        rowsOneAfterTheOther();
        orderOfRefusing();
        twoToOneKey();
        refusedIsKept();
        lostMembers();
        steps();
        directAheadOfSteps();
        stepsRefused();
        lostOfAllSteps();
        fullState();
        DUE.end();
    }

    private static void refused(String what, StateMoves x, long... due) {
        for (int i = 0; i < 4; i++) {
            DUE.is(what + ": refused(" + i + ")", x.refused(i), due[i]);
        }
        DUE.is(what + ": refusedKey(false)", x.refusedKey(false), due[4]);
        DUE.is(what + ": refusedKey(true)", x.refusedKey(true), due[5]);
    }

    private static void lost(String what, StateMoves x, int members, int values) {
        DUE.is(what + ": lost(0)", x.lost(0), members);
        DUE.is(what + ": lost(1)", x.lost(1), values);
    }

    private static void unknownOnes() {
        StateMoves x = new StateMoves();
        Due.type(x, 0, "a", "x:4");
        Due.type(x, 0, "b", "x:4");
        Due.type(x, 1, "a", "x:4");
        x.value(1, 0);
        x.value(2, 1);
        x.value(3, 1);
        x.set(2, 0, 5);
        x.rules(0, 1);
        DUE.is("REFUSED", x.carry(1), StateMoves.NONE);
        refused("UNKNOWN", x, 6, 1, -1, 0, 2, 0);
        DUE.is("unknown(2)", x.unknown(2), StateMoves.BAD);
        DUE.is("unknown(-1)", x.unknown(-1), StateMoves.BAD);
        DUE.is("unknown(1)", x.unknown(1), 0);
        DUE.is("unknown(1) again", x.unknown(1), 1);
        DUE.is("unknown(5)", x.unknown(5), StateMoves.BAD);
        DUE.is("dropped", x.dry(1), 1);
        lost("dropped", x, 0, 2);
        DUE.is("unknown(0)", x.unknown(0), 1);
        DUE.is("REFUSED again", x.dry(1), StateMoves.NONE);
        x.unknown(1);
        DUE.is("carried", x.carry(1), 1);
        DUE.is("the one", x.key(0), 1);
        DUE.is("no more", x.classOf(2), StateMoves.NONE);
    }

    private static void badAndState() {
        StateMoves x = new StateMoves();
        Due.type(x, 0, "a", "");
        int[] none = {-1, 8, 0, Integer.MAX_VALUE, Integer.MIN_VALUE};
        for (int build : none) {
            DUE.is("carry(" + build + ")", x.carry(build), StateMoves.BAD);
            DUE.is("dry(" + build + ")", x.dry(build), StateMoves.BAD);
        }
        DUE.is("no RULES", x.carry(1), StateMoves.STATE);
        DUE.is("no RULES, dry", x.dry(1), StateMoves.STATE);
        x.rules(1, 0);
        DUE.is("RULES back alone", x.carry(1), StateMoves.STATE);
        x.rules(0, 1);
        DUE.is("an empty text, without VALUES", x.carry(1), 0);
        DUE.is("THE STATE's BUILD", x.told(0), 1);
        int[] what = {-1, 4, Integer.MAX_VALUE, Integer.MIN_VALUE};
        for (int one : what) {
            DUE.is("refused(" + one + ")", x.refused(one), StateMoves.BAD);
            DUE.is("lost(" + one + ")", x.lost(one), StateMoves.BAD);
        }
        DUE.is("lost(2)", x.lost(2), StateMoves.BAD);
    }

    private static void keysAndMembers() {
        StateMoves x = new StateMoves();
        Due.type(x, 0, "a", "x:4 r:4[]");
        Due.type(x, 1, "b", "");
        Due.type(x, 1, "c", "s:5[] y:5 z:4 k:5");
        long[] keys = {9, -3, 4};
        for (long key : keys) {
            x.value(key, 0);
            x.set(key, 0, 10 * key);
            x.add(key, 1, key);
            x.add(key, 1, -key);
        }
        DUE.is("rules", Due.rules(x, 0, 1, "move a to c{z=key*2;y=x+r[1];key=-key;s=r;k=key;}"), 1);
        DUE.is("carry", x.carry(1), 3);
        DUE.is("key(0)", x.key(0), -9);
        DUE.is("key(1)", x.key(1), -4);
        DUE.is("key(2)", x.key(2), 3);
        for (long key : keys) {
            DUE.is("classOf", x.classOf(-key), 1);
            DUE.is("a row", x.many(-key, 0), 2);
            DUE.is("its first", x.bits(-key, 0, 0), key);
            DUE.is("its second", x.bits(-key, 0, 1), -key);
            DUE.is("x + r[1]", x.bits(-key, 1, 0), 9 * key);
            DUE.is("the old KEY", x.bits(-key, 2, 0), 2 * key);
            DUE.is("the old KEY", x.bits(-key, 3, 0), key);
        }
        lost("all is told", x, 0, 0);
    }

    private static void defaults() {
        StateMoves x = new StateMoves();
        Due.type(x, 0, "a", "n:4 x:4 r:4[] v:4 w:4[] u:4");
        Due.type(x, 1, "a", "u:5 w:4 v:4[] r:5[] x:5 m:4 q:4[]");
        x.value(1, 0);
        for (int m = 0; m < 6; m++) {
            x.set(1, m, 10 + m);
            x.add(1, m, 10 + m);
        }
        DUE.is("rules", Due.rules(x, 0, 1, "move a to a{drop u;}"), 1);
        DUE.is("carry", x.carry(1), 1);
        DUE.is("dropped: first value", x.bits(1, 0, 0), 0);
        DUE.is("in ARRAYS there alone: first value", x.bits(1, 1, 0), 0);
        DUE.is("in ARRAYS here alone: no row", x.many(1, 2), 0);
        DUE.is("a row goes by its NAME", x.many(1, 3), 1);
        DUE.is("its element", x.bits(1, 3, 0), 12);
        DUE.is("one goes by its NAME", x.bits(1, 4, 0), 11);
        DUE.is("a new one", x.bits(1, 5, 0), 0);
        DUE.is("a new row", x.many(1, 6), 0);
        lost("n, v and w", x, 3, 0);
    }

    private static void drops() {
        StateMoves x = new StateMoves();
        Due.type(x, 0, "a", "x:4");
        Due.type(x, 0, "b", "x:4");
        Due.type(x, 1, "a", "x:4");
        Due.type(x, 1, "b", "x:4");
        for (int i = 0; i < 5; i++) {
            x.value(i, i % 2);
            x.set(i, 0, i);
        }
        DUE.is("rules", Due.rules(x, 0, 1, "drop a;"), 1);
        DUE.is("carry", x.carry(1), 2);
        DUE.is("key(0)", x.key(0), 1);
        DUE.is("key(1)", x.key(1), 3);
        lost("dropped by a RULE", x, 0, 3);
    }

    private static void dryStays() {
        StateMoves x = new StateMoves();
        Due.type(x, 0, "a", "x:4 y:4");
        Due.type(x, 1, "a", "x:5");
        x.value(2, 0);
        x.set(2, 0, 3);
        x.set(2, 1, 4);
        Due.rules(x, 0, 1, "move a to a{key=key+1;x=x*2;}");
        DUE.is("dry", x.dry(1), 1);
        lost("dry", x, 1, 0);
        DUE.is("the BUILD", x.told(0), 0);
        DUE.is("the KEY", x.key(0), 2);
        DUE.is("x", x.bits(2, 0, 0), 3);
        DUE.is("y", x.bits(2, 1, 0), 4);
        DUE.is("carry", x.carry(1), 1);
        DUE.is("the BUILD", x.told(0), 1);
        DUE.is("the KEY", x.key(0), 3);
        DUE.is("x", x.bits(3, 0, 0), 6);
    }

    private static StateMoves forWork(String work) {
        StateMoves x = new StateMoves();
        Due.type(x, 0, "a", "x:5 y:5 t:0 r:5[] b:1 c:3");
        Due.type(x, 1, "a", "o:5");
        x.value(7, 0);
        x.set(7, 0, Long.MIN_VALUE);
        x.set(7, 1, Long.MAX_VALUE);
        x.set(7, 2, 1);
        x.add(7, 3, 30);
        x.add(7, 3, 2);
        x.add(7, 3, -1);
        x.set(7, 4, -5);
        x.set(7, 5, 65535);
        DUE.is("rules with " + work, Due.rules(x, 0, 1, "move a to a{o=" + work + ";}"), 1);
        return x;
    }

    private static void works(String work, long due) {
        StateMoves x = forWork(work);
        DUE.is("carry with " + work, x.carry(1), 1);
        DUE.is(work, x.bits(7, 0, 0), due);
    }

    private static void fails(String work, int why) {
        StateMoves x = forWork(work);
        DUE.is("carry with " + work, x.carry(1), StateMoves.NONE);
        refused(work, x, why, 0, 0, 0, 7, 0);
        DUE.is("nothing is changed", x.told(0), 0);
    }

    private static void work() {
        works("1+2*3", 7);
        works("10-2-3", 5);
        works("100/10/5", 2);
        works("100/10*5", 50);
        works("2*3%4", 2);
        works("7%4*2", 6);
        works("1+2*3-4*5+6", -7);
        works("(1+2)*3", 9);
        works("-b*2", 10);
        works("-7/2", -3);
        works("7/-2", -3);
        works("-7%2", -1);
        works("7%-2", 1);
        works("-7%-2", -1);
        works("t+t", 2);
        works("c+b", 65530);
        works("#r", 3);
        works("r[0]+r[1]*r[2]", 28);
        works("r[r[1]]", -1);
        works("r[#r-1]", -1);
        works("r[t]", 2);
        works("key*key", 49);
        works("x", Long.MIN_VALUE);
        works("(x)", Long.MIN_VALUE);
        works("x%-1", 0);
        works("y%-1", 0);
        works("x+y", -1);
        works("x/2*2", Long.MIN_VALUE);
        works("-y-1", Long.MIN_VALUE);
        works("-y/-1", Long.MAX_VALUE);
        works("x/1", Long.MIN_VALUE);
        works("x*1", Long.MIN_VALUE);
        works("y*-1", -Long.MAX_VALUE);
        works("0*x", 0);
        works("x*0", 0);
        works("x--1-1", Long.MIN_VALUE);
        works("2147483647*2147483647*2+2147483647*4", 2147483647L * 2147483647L * 2 + 2147483647L * 4);
        works("- - -5", -5);
        works("(".repeat(20) + "5" + ")".repeat(20), 5);
        works("1+2*(".repeat(20) + "1" + ")".repeat(20), (1L << 21) - 1);
    }

    private static void refusedWork() {
        fails("y+1", 2);
        fails("x-1", 2);
        fails("-x", 2);
        fails("x/-1", 2);
        fails("x*-1", 2);
        fails("-1*x", 2);
        fails("y*2", 2);
        fails("x*2", 2);
        fails("y*y", 2);
        fails("x*x", 2);
        fails("x*y", 2);
        fails("0-x", 2);
        fails("y+1-1", 2);
        fails("y-x", 2);
        fails("4294967*4294967*1000000*1000000", 2);
    }

    private static void refusedTypes() {
        fails("1/0", 4);
        fails("1%0", 4);
        fails("x/(t-1)", 4);
        fails("x%0", 4);
        fails("0/0", 4);
        fails("r[3]", 5);
        fails("r[-1]", 5);
        fails("r[x]", 5);
        fails("r[y]", 5);
        fails("r[2147483647*2+2]", 5);
        fails("1/0+r[9]", 4);
        fails("r[9]+1/0", 5);
        fails("y*2/0", 2);
        fails("r[1/0]", 4);
        fails("1+y*2+r[9]", 2);
        fails("r[9]*0", 5);
        fails("1-(x-1)+1/0", 2);
    }

    private static void rowsOneAfterTheOther() {
        StateMoves x = new StateMoves();
        Due.type(x, 0, "a", "r:4[] s:7[]");
        Due.type(x, 1, "a", "r:1[] s:6[]");
        x.value(1, 0);
        x.add(1, 0, 127);
        x.add(1, 0, -128);
        x.add(1, 1, Double.doubleToLongBits(0.5));
        x.rules(0, 1);
        DUE.is("both fit", x.dry(1), 1);
        x.add(1, 1, Double.doubleToLongBits(0.1));
        DUE.is("no FLOAT", x.dry(1), StateMoves.NONE);
        refused("no FLOAT", x, 1, 0, 1, 0, 1, 0);
        x.add(1, 0, 128);
        DUE.is("no BYTE, ahead of it", x.carry(1), StateMoves.NONE);
        refused("no BYTE", x, 1, 0, 0, 0, 1, 0);
        DUE.is("nothing is changed", x.many(1, 0), 3);
        DUE.is("the BUILD", x.told(0), 0);
    }

    private static void orderOfRefusing() {
        StateMoves x = new StateMoves();
        Due.type(x, 0, "u", "");
        Due.type(x, 0, "a", "x:4 y:4");
        Due.type(x, 1, "a", "y:1 x:1");
        x.value(5, 1);
        x.value(6, 0);
        x.set(5, 0, 200);
        x.set(5, 1, 200);
        Due.rules(x, 0, 1, "move a to a{x=1/(x-200);key=1/(y-200);}");
        DUE.is("the KEY first", x.dry(1), StateMoves.NONE);
        refused("the KEY first", x, 4, 1, -1, 0, 5, 0);
        Due.rules(x, 0, 1, "move a to a{x=1/(x-200);}");
        DUE.is("the MEMBERS in order", x.dry(1), StateMoves.NONE);
        refused("the MEMBERS in order", x, 1, 1, 0, 0, 5, 0);
        x.set(5, 1, 100);
        x.dry(1);
        refused("the other one", x, 4, 1, 1, 0, 5, 0);
        x.set(5, 0, 100);
        x.dry(1);
        refused("UNKNOWN in its turn", x, 6, 0, -1, 0, 6, 0);
        x.value(4, 0);
        x.set(5, 0, 200);
        x.dry(1);
        refused("the least KEY first", x, 6, 0, -1, 0, 4, 0);
        x.begin(0);
        x.value(1, 1);
        x.value(2, 1);
        x.value(3, 0);
        Due.rules(x, 0, 1, "move a to a{key=1;}");
        x.dry(1);
        refused("one KEY only then", x, 6, 0, -1, 0, 3, 0);
        x.unknown(1);
        x.dry(1);
        refused("one KEY", x, 3, -1, -1, 0, 1, 2);
    }

    private static void twoToOneKey() {
        StateMoves x = new StateMoves();
        Due.type(x, 0, "a", "x:5");
        Due.type(x, 1, "a", "x:5");
        long[][] values = {{1, 9}, {2, -4}, {3, 9}, {4, -4}, {5, -4}, {6, -9}};
        for (long[] one : values) {
            x.value(one[0], 0);
            x.set(one[0], 0, one[1]);
        }
        Due.rules(x, 0, 1, "move a to a{key=x;}");
        DUE.is("carry", x.carry(1), StateMoves.NONE);
        refused("the least such KEY", x, 3, -1, -1, 0, 2, 4);
        x.set(2, 0, 0);
        x.dry(1);
        refused("the first two of it", x, 3, -1, -1, 0, 4, 5);
        x.set(4, 0, 1);
        x.dry(1);
        refused("the next one", x, 3, -1, -1, 0, 1, 3);
        x.set(3, 0, 4);
        DUE.is("carry", x.carry(1), 6);
        DUE.is("key(0)", x.key(0), -9);
        DUE.is("key(5)", x.key(5), 9);
    }

    private static void refusedIsKept() {
        StateMoves x = new StateMoves();
        Due.type(x, 0, "a", "x:4 y:4");
        Due.type(x, 1, "a", "x:1");
        x.value(3, 0);
        x.set(3, 0, 500);
        x.set(3, 1, 1);
        x.rules(0, 1);
        x.carry(1);
        refused("REFUSED", x, 1, 0, 0, 0, 3, 0);
        lost("REFUSED", x, 0, 0);
        x.set(3, 0, 5);
        x.dry(1);
        refused("dry leaves it", x, 1, 0, 0, 0, 3, 0);
        lost("dry", x, 1, 0);
        x.set(3, 0, 500);
        x.dry(1);
        lost("REFUSED leaves it", x, 1, 0);
        x.carry(5);
        x.carry(0);
        x.begin(0);
        lost("STATE, BAD and begin leave it", x, 1, 0);
        refused("STATE, BAD and begin leave it", x, 1, 0, 0, 0, 3, 0);
        x.dry(1);
        lost("nothing was LOST", x, 0, 0);
    }

    private static void lostMembers() {
        StateMoves x = new StateMoves();
        Due.type(x, 0, "a", "n:4 e:4 i:4 c:4[] d:4 m:6 r:4[] x:4");
        Due.type(x, 1, "a", "x:4 y:5");
        x.value(1, 0);
        x.value(2, 0);
        Due.rules(x, 0, 1, "move a to a{drop d;y=e+#c*0;x=i*0;}");
        x.dry(1);
        lost("all first values", x, 0, 0);
        x.set(1, 1, 1);
        x.set(1, 2, 1);
        x.add(1, 3, 1);
        x.set(1, 4, 1);
        x.dry(1);
        lost("told in E's, or dropped", x, 0, 0);
        x.set(1, 7, 1);
        x.dry(1);
        lost("a RULE has the MEMBER of its NAME", x, 1, 0);
        x.set(1, 5, Integer.MIN_VALUE);
        x.dry(1);
        lost("-0 is not the first value", x, 2, 0);
        x.add(1, 6, 0);
        x.dry(1);
        lost("a row that has something", x, 3, 0);
        x.set(2, 0, 1);
        x.dry(1);
        lost("of another VALUE too", x, 4, 0);
        Due.rules(x, 0, 1, "move a to a{key=n*0+key;x=x;}");
        x.dry(1);
        lost("told in the KEY's E", x, 6, 0);
        x.rules(0, 1);
        x.dry(1);
        lost("x goes by its NAME", x, 7, 0);
        Due.rules(x, 0, 1, "drop a;");
        x.carry(1);
        lost("dropped VALUES for themselves", x, 0, 2);
    }

    private static StateMoves chain(int builds) {
        StateMoves x = new StateMoves();
        for (int build = 0; build < builds; build++) {
            Due.type(x, build, "a", "x:5");
        }
        return x;
    }

    private static void steps() {
        StateMoves x = chain(8);
        x.value(1, 0);
        for (int build = 0; build < 7; build++) {
            DUE.is("not yet", x.dry(7), StateMoves.STATE);
            Due.rules(x, build, build + 1, "move a to a{x=x*10+" + (build + 1) + ";key=key*2;}");
        }
        DUE.is("dry(7)", x.dry(7), 1);
        DUE.is("THE STATE stays", x.bits(1, 0, 0), 0);
        DUE.is("carry(3)", x.carry(3), 1);
        DUE.is("three steps", x.bits(8, 0, 0), 123);
        DUE.is("carry(7)", x.carry(7), 1);
        DUE.is("seven steps", x.bits(128, 0, 0), 1234567);
        DUE.is("not back", x.carry(0), StateMoves.STATE);
        for (int build = 7; build > 0; build--) {
            DUE.is("not back yet", x.dry(0), StateMoves.STATE);
            Due.rules(x, build, build - 1, "move a to a{x=x/10;key=key/2;}");
        }
        DUE.is("carry(5)", x.carry(5), 1);
        DUE.is("two steps back", x.bits(32, 0, 0), 12345);
        DUE.is("carry(0)", x.carry(0), 1);
        DUE.is("all the way", x.bits(1, 0, 0), 0);
        DUE.is("the BUILD", x.told(0), 0);
    }

    private static void directAheadOfSteps() {
        StateMoves x = chain(4);
        x.value(1, 0);
        x.set(1, 0, 5);
        for (int build = 0; build < 3; build++) {
            Due.rules(x, build, build + 1, "move a to a{x=x+1;}");
        }
        x.dry(3);
        DUE.is("an empty text leads there", x.rules(0, 3), 0);
        DUE.is("carry(3)", x.carry(3), 1);
        DUE.is("at once", x.bits(1, 0, 0), 5);
        x.begin(0);
        x.value(1, 0);
        x.forget(0, 3);
        x.rules(1, 3);
        DUE.is("step by step of one each", x.carry(3), 1);
        DUE.is("three of them", x.bits(1, 0, 0), 3);
        x.begin(0);
        x.value(1, 0);
        x.forget(1, 2);
        DUE.is("no other ways", x.carry(3), StateMoves.STATE);
    }

    private static void stepsRefused() {
        StateMoves x = new StateMoves();
        Due.type(x, 2, "a", "x:5");
        Due.type(x, 3, "u", "");
        Due.type(x, 3, "a", "y:5 x:5");
        Due.type(x, 4, "b", "n:4 m:4 x:1");
        x.begin(2);
        x.value(1, 0);
        x.value(2, 0);
        x.set(2, 0, 7);
        Due.rules(x, 2, 3, "move a to a{key=100-key;}");
        Due.rules(x, 3, 4, "move a to b{x=x*20;}");
        DUE.is("carry(4)", x.carry(4), StateMoves.NONE);
        refused("as its step has it", x, 1, 1, 2, 1, 98, 0);
        DUE.is("nothing is changed", x.told(0), 2);
        DUE.is("nothing is changed", x.key(1), 2);
        Due.rules(x, 3, 4, "move a to b{key=0;}");
        x.dry(4);
        refused("one KEY in step 1", x, 3, -1, -1, 1, 98, 99);
        x.rules(3, 4);
        x.dry(4);
        refused("UNKNOWN in step 1", x, 6, 1, -1, 1, 98, 0);
        x.forget(3, 4);
        Due.rules(x, 2, 3, "move a to a{key=1/0;}");
        DUE.is("no RULES, ahead of REFUSED", x.dry(4), StateMoves.STATE);
        refused("that is as it was", x, 6, 1, -1, 1, 98, 0);
    }

    private static void lostOfAllSteps() {
        StateMoves x = new StateMoves();
        Due.type(x, 0, "a", "x:4 y:4");
        Due.type(x, 0, "g", "");
        Due.type(x, 1, "a", "x:4 z:4");
        Due.type(x, 1, "h", "");
        Due.type(x, 2, "a", "w:4");
        x.value(1, 0);
        x.set(1, 0, 1);
        x.set(1, 1, 1);
        x.value(2, 1);
        x.value(3, 1);
        Due.rules(x, 0, 1, "move g to h{key=key;}move a to a{z=7;}");
        x.rules(1, 2);
        x.unknown(1);
        DUE.is("carry(2)", x.carry(2), 1);
        lost("of both steps", x, 3, 2);
    }

    private static void fullState() {
        StateMoves x = new StateMoves();
        Due.type(x, 0, "a", "a:4[] b:4[] c:4[] d:4[] e:4[] f:4[] g:4[] h:4[]");
        Due.type(x, 1, "a", "h:7[] g:7[] f:7[] e:7[] d:7[] c:7[] b:7[] a:7[]");
        for (int i = 0; i < 60; i++) {
            x.value(i, 0);
            x.add(i, i % 8, i);
        }
        Due.rules(x, 0, 1, "move a to a{key=59-key;}");
        x.rules(1, 0);
        for (int round = 0; round < 20; round++) {
            DUE.is("there", x.carry(1), 60);
            DUE.is("and back", x.carry(0), 60);
        }
        DUE.is("carry", x.carry(1), 60);
        for (int i = 0; i < 60; i++) {
            long key = x.key(i);
            DUE.is("key", key, i);
        }
        DUE.is("of 59, now 0", x.bits(0, 7 - 59 % 8, 0), Double.doubleToLongBits(59));
        DUE.is("of 0, now 59", x.many(59, 7), 1);
        DUE.is("no other row", x.many(59, 6), 0);
    }
}
