/** TYPES, THE STATE, and promises 4 to 7 and 17 to 21: each sentence that names an edge. */
public final class EdgesOfStateTest {
    private static final Due DUE = new Due("EdgesOfStateTest");
    private static final int NONE = StateMoves.NONE, BAD = StateMoves.BAD, FULL = StateMoves.FULL, STATE = StateMoves.STATE;
    private static final int[] NO_MEMBERS = {-1, 8, 9, 64, -64, Integer.MIN_VALUE, Integer.MAX_VALUE};
    private static final int[] NO_ELEMENTS = {-1, 8, 9, -8, 64, Integer.MIN_VALUE, Integer.MAX_VALUE};

    public static void main(String[] args) {
        truth();
        wholeNumbers();
        floats();
        doubles();
        noNumbers();
        firstValues();
        sixtyValues();
        keysAreLongs();
        rowsOfEight();
        begins();
        beginBad();
        valueComes();
        valueBad();
        valueState();
        valueFull();
        sets();
        setBad();
        setNone();
        adds();
        addBad();
        addNone();
        addFull();
        told();
        toldRules();
        keyOf();
        classOf();
        many();
        bits();
        bitsOfNone();
        DUE.end();
    }

    /** CLASS 0 has one MEMBER of each TYPE, CLASS 1 likewise in ARRAYS, CLASS 2 just two, the second in ARRAYS. */
    private static StateMoves withAllTypes() {
        StateMoves x = new StateMoves();
        Due.type(x, 0, "one", "a:0 b:1 c:2 d:3 e:4 f:5 g:6 h:7");
        Due.type(x, 0, "row", "a:0[] b:1[] c:2[] d:3[] e:4[] f:5[] g:6[] h:7[]");
        Due.type(x, 0, "two", "a:4 b:4[]");
        x.value(1, 0);
        x.value(2, 1);
        x.value(3, 2);
        return x;
    }

    private static void are(int type, long... some) {
        StateMoves x = withAllTypes();
        for (long bits : some) {
            DUE.is("set of TYPE " + type + " to " + bits, x.set(1, type, bits), 1);
            DUE.is("its bits", x.bits(1, type, 0), bits);
            x.begin(0);
            x.value(1, 0);
            x.value(2, 1);
            DUE.is("add of TYPE " + type + ", " + bits, x.add(2, type, bits), 1);
            DUE.is("its bits", x.bits(2, type, 0), bits);
        }
    }

    private static void areNot(int type, long... some) {
        StateMoves x = withAllTypes();
        x.set(1, type, 1);
        for (long bits : some) {
            DUE.is("set of TYPE " + type + " to " + bits, x.set(1, type, bits), NONE);
            DUE.is("it stays", x.bits(1, type, 0), 1);
            DUE.is("add of TYPE " + type + ", " + bits, x.add(2, type, bits), NONE);
            DUE.is("no one came", x.many(2, type), 0);
        }
    }

    private static void truth() {
        DUE.sentence("0 TRUTH (0, 1)");
        are(0, 0, 1);
        areNot(0, -1, 2, 3, 256, 257, 1L << 32, (1L << 32) + 1, Long.MIN_VALUE, Long.MAX_VALUE);
    }

    private static void wholeNumbers() {
        DUE.sentence("1 BYTE (-128 .. 127), 2 SHORT, 3 CHAR (0 .. 65535), 4 INT, 5 LONG");
        are(1, -128, -1, 0, 1, 127);
        areNot(1, -129, 128, 255, 256, -256, 1L << 32, Long.MIN_VALUE, Long.MAX_VALUE);
        are(2, -32768, -1, 0, 32767);
        areNot(2, -32769, 32768, 65535, 65536, 1L << 32, Long.MIN_VALUE, Long.MAX_VALUE);
        are(3, 0, 1, 32767, 32768, 65535);
        areNot(3, -1, -32768, 65536, 65537, 1L << 32, Long.MIN_VALUE, Long.MAX_VALUE);
        are(4, Integer.MIN_VALUE, -1, 0, Integer.MAX_VALUE);
        areNot(4, Integer.MIN_VALUE - 1L, Integer.MAX_VALUE + 1L, 0xFFFFFFFFL, 1L << 32, Long.MIN_VALUE, Long.MAX_VALUE);
        are(5, Long.MIN_VALUE, Long.MIN_VALUE + 1, -1, 0, 1, Long.MAX_VALUE);
    }

    private static void floats() {
        DUE.sentence("IEEE 754, told by their bits, a FLOAT's as an int");
        are(6, 0, 1, 0x007FFFFF, 0x00800000, 0x3F800000, 0x7F7FFFFF, 0x7F800000);
        are(6, 0x80000000, 0x80000001, 0x80800000, 0xBF800000, 0xFF7FFFFF, 0xFF800000);
        areNot(6, 0x80000000L, 0xBF800000L, 0xFF800000L, 1L << 32, (1L << 32) + 0x3F800000L, Long.MIN_VALUE,
                Integer.MIN_VALUE - 1L, 0x3FF0000000000000L);
    }

    private static void doubles() {
        DUE.sentence("7 DOUBLE (IEEE 754, told by their bits");
        are(7, 0, 1, 0x000FFFFFFFFFFFFFL, 0x0010000000000000L, 0x3FF0000000000000L, 0x7FEFFFFFFFFFFFFFL,
                0x7FF0000000000000L);
        are(7, Long.MIN_VALUE, Long.MIN_VALUE + 1, 0xBFF0000000000000L, 0xFFEFFFFFFFFFFFFFL, 0xFFF0000000000000L);
    }

    private static void noNumbers() {
        DUE.sentence("of what is no number there is one alone: 7FC00000, 7FF8000000000000, hexadecimal");
        are(6, 0x7FC00000);
        areNot(6, 0x7F800001, 0x7FBFFFFF, 0x7FC00001, 0x7FFFFFFF, 0xFF800001, 0xFFBFFFFF, 0xFFC00000, 0xFFC00001,
                0xFFFFFFFF, 0xFFC00000L, 0x7FF8000000000000L);
        are(7, 0x7FF8000000000000L);
        areNot(7, 0x7FF0000000000001L, 0x7FF7FFFFFFFFFFFFL, 0x7FF8000000000001L, 0x7FFFFFFFFFFFFFFFL,
                0xFFF0000000000001L, 0xFFF7FFFFFFFFFFFFL, 0xFFF8000000000000L, 0xFFF8000000000001L, -1L);
    }

    private static void firstValues() {
        DUE.sentence("The first value of each is 0 (false, 0.0).");
        StateMoves x = withAllTypes();
        for (int member = 0; member < 8; member++) {
            DUE.is("the first value of " + member, x.bits(1, member, 0), 0);
            DUE.is("there is one", x.many(1, member), 1);
            DUE.is("no row of " + member, x.many(2, member), 0);
        }
    }

    private static void sixtyValues() {
        DUE.sentence("it has VALUES (60 at most) by KEYS (longs)");
        StateMoves x = withAllTypes();
        for (int round = 0; round < 2; round++) {
            x.begin(0);
            for (int i = 0; i < 60; i++) {
                DUE.is("VALUE " + i, x.value((i * 37 + 11) % 60 - 30, i % 3), i + 1);
            }
            DUE.is("one more", x.value(30, 0), FULL);
            DUE.is("one more, the least", x.value(Long.MIN_VALUE, 0), FULL);
            for (int i = 0; i < 60; i++) {
                DUE.is("key(" + i + ")", x.key(i), i - 30);
            }
        }
        DUE.is("told(1)", x.told(1), 60);
        DUE.is("it did not come", x.classOf(30), NONE);
        DUE.is("key(60)", x.key(60), 0);
    }

    private static void keysAreLongs() {
        DUE.sentence("it has VALUES (60 at most) by KEYS (longs), each of a CLASS of that BUILD");
        StateMoves x = withAllTypes();
        x.begin(0);
        long[] keys = {0, Long.MAX_VALUE, Long.MIN_VALUE, -1, 1, 1L << 32, -(1L << 32), Long.MIN_VALUE + 1,
            Long.MAX_VALUE - 1, Integer.MAX_VALUE, Integer.MIN_VALUE};
        for (int i = 0; i < keys.length; i++) {
            DUE.is("value of " + keys[i], x.value(keys[i], 0), i + 1);
            x.set(keys[i], 5, ~keys[i]);
        }
        long[] sorted = keys.clone();
        java.util.Arrays.sort(sorted);
        for (int i = 0; i < keys.length; i++) {
            DUE.is("key(" + i + ")", x.key(i), sorted[i]);
            DUE.is("its own MEMBER", x.bits(sorted[i], 5, 0), ~sorted[i]);
        }
    }

    private static void rowsOfEight() {
        DUE.sentence("one of the TYPE, or a row of 0 to 8 of them");
        StateMoves x = new StateMoves();
        Due.type(x, 0, "a", "a:5[] b:5[] c:5[] d:5[] e:5[] f:5[] g:5[] h:5[]");
        x.value(9, 0);
        for (int member = 0; member < 8; member++) {
            DUE.is("a row of none", x.many(9, member), 0);
            for (int k = 0; k < 8; k++) {
                DUE.is("one more", x.add(9, member, 10 * member + k + 1), k + 1);
            }
            DUE.is("a ninth", x.add(9, member, 99), FULL);
        }
        for (int member = 0; member < 8; member++) {
            DUE.is("a row of eight", x.many(9, member), 8);
            for (int k = 0; k < 8; k++) {
                DUE.is("element " + k + " of " + member, x.bits(9, member, k), 10 * member + k + 1);
            }
            for (int k : NO_ELEMENTS) {
                DUE.is("element " + k + " of " + member, x.bits(9, member, k), 0);
            }
        }
        x.begin(0);
        x.value(9, 0);
        DUE.is("none of it is left", x.many(9, 7), 0);
        DUE.is("none of it is left", x.bits(9, 7, 0), 0);
    }

    private static void begins() {
        DUE.sentence("THE STATE is of a BUILD, without VALUES: how many there were. BAD.");
        StateMoves x = new StateMoves();
        for (int build = 0; build < 8; build++) {
            Due.type(x, build, "a", "x:4");
        }
        DUE.is("none were there", x.begin(7), 0);
        x.value(1, 0);
        DUE.is("one was there", x.begin(7), 1);
        DUE.is("the same BUILD", x.told(0), 7);
        for (int i = 0; i < 60; i++) {
            x.value(i, 0);
        }
        DUE.is("sixty were there", x.begin(0), 60);
        DUE.is("BUILD 0", x.told(0), 0);
        DUE.is("without VALUES", x.told(1), 0);
        DUE.is("no KEY", x.key(59), 0);
        DUE.is("no VALUE", x.classOf(59), NONE);
        DUE.is("no MEMBER", x.set(59, 0, 1), BAD);
        DUE.is("once more", x.begin(0), 0);
    }

    private static void beginBad() {
        DUE.sentence("how many there were. BAD.");
        StateMoves x = withAllTypes();
        x.set(1, 5, 77);
        String before = Due.picture(x);
        int[] none = {-1, 8, Integer.MIN_VALUE, Integer.MAX_VALUE};
        for (int build : none) {
            DUE.is("begin(" + build + ")", x.begin(build), BAD);
        }
        DUE.same("BAD changes nothing", Due.picture(x), before);
    }

    private static void valueComes() {
        DUE.sentence("A VALUE of a CLASS of THE STATE's BUILD comes, all of it first values (no rows): how many VALUES.");
        StateMoves x = withAllTypes();
        for (int member = 0; member < 8; member++) {
            x.set(1, member, 1);
            x.add(2, member, 1);
        }
        DUE.is("three were there", x.begin(0), 3);
        // The places of VALUES that went are used again by those of other CLASSES.
        DUE.is("the first", x.value(1, 1), 1);
        DUE.is("the second", x.value(2, 0), 2);
        DUE.is("the third, ahead of them", x.value(0, 2), 3);
        for (int member = 0; member < 8; member++) {
            DUE.is("no rows", x.many(1, member), 0);
            DUE.is("no element", x.bits(1, member, 0), 0);
            DUE.is("one", x.many(2, member), 1);
            DUE.is("a first value", x.bits(2, member, 0), 0);
        }
        DUE.is("one of two", x.many(0, 0), 1);
        DUE.is("a row of two", x.many(0, 1), 0);
        DUE.is("no third", x.many(0, 2), BAD);
        DUE.is("to it one can add", x.add(1, 0, 1), 1);
        DUE.is("it can be set", x.set(2, 0, 1), 1);
        DUE.is("its CLASS", x.classOf(1), 1);
    }

    private static void valueBad() {
        DUE.sentence("BAD: the class; STATE: there is one of the KEY; FULL.");
        StateMoves x = withAllTypes();
        Due.type(x, 1, "a", "");
        int[] none = {-1, 3, 5, 6, 7, 8, Integer.MIN_VALUE, Integer.MAX_VALUE};
        for (int cls : none) {
            DUE.is("class " + cls, x.value(9, cls), BAD);
            DUE.is("BAD ahead of STATE", x.value(1, cls), BAD);
        }
        DUE.is("no one came", x.told(1), 3);
        x.begin(1);
        DUE.is("a CLASS of another BUILD", x.value(9, 1), BAD);
        DUE.is("of this one", x.value(9, 0), 1);
        x.begin(2);
        DUE.is("a BUILD without CLASSES", x.value(9, 0), BAD);
    }

    private static void valueState() {
        DUE.sentence("STATE: there is one of the KEY");
        StateMoves x = withAllTypes();
        x.set(1, 5, 77);
        x.add(2, 5, 78);
        String before = Due.picture(x);
        DUE.is("the same CLASS", x.value(1, 0), STATE);
        DUE.is("another CLASS", x.value(1, 1), STATE);
        DUE.is("a row", x.value(2, 1), STATE);
        DUE.same("STATE changes nothing", Due.picture(x), before);
        DUE.is("KEY 0", x.value(0, 0), 4);
        DUE.is("KEY 0 again", x.value(0, 0), STATE);
        DUE.is("the least KEY", x.value(Long.MIN_VALUE, 0), 5);
        DUE.is("the least KEY again", x.value(Long.MIN_VALUE, 0), STATE);
    }

    private static void valueFull() {
        DUE.sentence("STATE: there is one of the KEY; FULL.");
        StateMoves x = withAllTypes();
        for (int i = 4; i <= 59; i++) {
            x.value(i, 0);
        }
        DUE.is("the sixtieth", x.value(60, 1), 60);
        DUE.is("one more", x.value(61, 0), FULL);
        DUE.is("STATE ahead of FULL", x.value(60, 0), STATE);
        DUE.is("BAD ahead of FULL", x.value(61, 3), BAD);
        DUE.is("sixty still", x.told(1), 60);
        DUE.is("the last KEY", x.key(59), 60);
        DUE.is("no more", x.classOf(61), NONE);
        x.begin(0);
        DUE.is("room again", x.value(61, 0), 1);
    }

    private static void sets() {
        DUE.sentence("A MEMBER (by its number) of a VALUE becomes what bits tell: 1.");
        StateMoves x = withAllTypes();
        x.value(7, 0);
        for (int member = 0; member < 8; member++) {
            DUE.is("set", x.set(1, member, 1), 1);
            DUE.is("set to the same", x.set(1, member, 1), 1);
            DUE.is("another VALUE's stays", x.bits(7, member, 0), 0);
            DUE.is("there is one", x.many(1, member), 1);
        }
        x.set(1, 0, 0);
        DUE.is("back to the first value", x.bits(1, 0, 0), 0);
        DUE.is("the next one stays", x.bits(1, 1, 0), 1);
    }

    private static void setBad() {
        DUE.sentence("BAD: no such VALUE, member, it is in ARRAYS; NONE: no value of its TYPE.");
        StateMoves x = withAllTypes();
        for (int member : NO_MEMBERS) {
            DUE.is("member " + member, x.set(1, member, 0), BAD);
        }
        DUE.is("member 2 of two", x.set(3, 2, 0), BAD);
        DUE.is("no such VALUE", x.set(4, 0, 0), BAD);
        DUE.is("no such VALUE of KEY 0", x.set(0, 0, 0), BAD);
        for (int member = 0; member < 8; member++) {
            DUE.is("in ARRAYS", x.set(2, member, 0), BAD);
            DUE.is("nothing came", x.many(2, member), 0);
        }
        DUE.is("in ARRAYS, of two", x.set(3, 1, 0), BAD);
        DUE.is("BAD ahead of NONE: no such VALUE", x.set(4, 0, 2), BAD);
        DUE.is("BAD ahead of NONE: in ARRAYS", x.set(2, 0, 2), BAD);
        x.begin(0);
        DUE.is("of THE STATE without VALUES", x.set(1, 0, 0), BAD);
    }

    private static void setNone() {
        DUE.sentence("it is in ARRAYS; NONE: no value of its TYPE.");
        StateMoves x = withAllTypes();
        long[] no = {2, 128, 32768, -1, 1L << 31, 0, 0x7F800001, 0x7FF0000000000001L};
        for (int member = 0; member < 8; member++) {
            x.set(1, member, 1);
            if (member != 5) {
                DUE.is("TYPE " + member, x.set(1, member, no[member]), NONE);
                DUE.is("it stays", x.bits(1, member, 0), 1);
            }
        }
    }

    private static void adds() {
        DUE.sentence("To a MEMBER in ARRAYS one more comes behind: how many.");
        StateMoves x = withAllTypes();
        x.value(7, 1);
        for (int k = 0; k < 8; k++) {
            DUE.is("one more", x.add(2, 5, 100 + k), k + 1);
            DUE.is("how many", x.many(2, 5), k + 1);
            DUE.is("the first", x.bits(2, 5, 0), 100);
            DUE.is("it is behind", x.bits(2, 5, k), 100 + k);
            DUE.is("none behind it", x.bits(2, 5, k + 1), 0);
        }
        DUE.is("the next MEMBER stays", x.many(2, 6), 0);
        DUE.is("another VALUE's stays", x.many(7, 5), 0);
    }

    private static void addBad() {
        DUE.sentence("BAD: no such VALUE, member, it is not in ARRAYS; NONE: no value of its TYPE; FULL");
        StateMoves x = withAllTypes();
        for (int member : NO_MEMBERS) {
            DUE.is("member " + member, x.add(2, member, 0), BAD);
        }
        DUE.is("member 2 of two", x.add(3, 2, 0), BAD);
        DUE.is("no such VALUE", x.add(4, 1, 0), BAD);
        for (int member = 0; member < 8; member++) {
            x.set(1, member, 1);
            DUE.is("not in ARRAYS", x.add(1, member, 0), BAD);
            DUE.is("it stays", x.bits(1, member, 0), 1);
            DUE.is("one still", x.many(1, member), 1);
        }
        DUE.is("BAD ahead of NONE: not in ARRAYS", x.add(1, 0, 2), BAD);
        DUE.is("BAD ahead of NONE: no such VALUE", x.add(4, 0, 2), BAD);
    }

    private static void addNone() {
        DUE.sentence("it is not in ARRAYS; NONE: no value of its TYPE; FULL");
        StateMoves x = withAllTypes();
        for (int k = 0; k < 8; k++) {
            DUE.is("no BYTE", x.add(2, 1, 128), NONE);
            DUE.is("no one came", x.many(2, 1), k);
            DUE.is("a BYTE", x.add(2, 1, 127), k + 1);
        }
        DUE.is("NONE ahead of FULL", x.add(2, 1, 128), NONE);
        DUE.is("FULL", x.add(2, 1, 127), FULL);
    }

    private static void addFull() {
        DUE.sentence("FULL: it has eight.");
        StateMoves x = withAllTypes();
        for (int member = 0; member < 8; member++) {
            for (int k = 0; k < 8; k++) {
                x.add(2, member, 1);
            }
            DUE.is("a ninth", x.add(2, member, 0), FULL);
            DUE.is("eight still", x.many(2, member), 8);
            DUE.is("the last stays", x.bits(2, member, 7), 1);
            DUE.is("no ninth", x.bits(2, member, 8), 0);
        }
    }

    private static void told() {
        DUE.sentence("What = 0 the BUILD that THE STATE is of, 1 its VALUES, 2 RULES (texts) that there are. BAD.");
        StateMoves x = withAllTypes();
        int[] none = {-1, 3, 4, Integer.MIN_VALUE, Integer.MAX_VALUE};
        for (int what : none) {
            DUE.is("told(" + what + ")", x.told(what), BAD);
        }
        DUE.is("the BUILD", x.told(0), 0);
        DUE.is("VALUES", x.told(1), 3);
        x.begin(7);
        DUE.is("the last BUILD", x.told(0), 7);
        DUE.is("no VALUES", x.told(1), 0);
    }

    private static void toldRules() {
        DUE.sentence("2 RULES (texts) that there are");
        StateMoves x = new StateMoves();
        int have = 0;
        for (int from = 0; from < 8; from++) {
            for (int to = 0; to < 8; to++) {
                x.rules(from, to);
                have += from == to ? 0 : 1;
                DUE.is("RULES", x.told(2), have);
            }
        }
        x.rules(7, 6);
        DUE.is("in place of others", x.told(2), 56);
        Due.rules(x, 7, 6, "!");
        DUE.is("a WRONG text", x.told(2), 56);
        for (int from = 0; from < 8; from++) {
            for (int to = 0; to < 8; to++) {
                x.forget(from, to);
                have -= from == to ? 0 : 1;
                DUE.is("RULES", x.told(2), have);
            }
        }
        x.forget(0, 1);
        DUE.is("none to forget", x.told(2), 0);
    }

    private static void keyOf() {
        DUE.sentence("KEY of VALUE i, by KEYS; 0: there is none.");
        StateMoves x = withAllTypes();
        int[] none = {-1, 3, 59, 60, Integer.MIN_VALUE, Integer.MAX_VALUE};
        for (int i : none) {
            DUE.is("key(" + i + ")", x.key(i), 0);
        }
        DUE.is("the first", x.key(0), 1);
        DUE.is("the last", x.key(2), 3);
        x.value(-5, 0);
        DUE.is("one ahead", x.key(0), -5);
        DUE.is("the last", x.key(3), 3);
        x.begin(0);
        DUE.is("none any more", x.key(0), 0);
    }

    private static void classOf() {
        DUE.sentence("The CLASS of a VALUE; NONE: there is no such one.");
        StateMoves x = withAllTypes();
        for (int key = 1; key <= 3; key++) {
            DUE.is("classOf(" + key + ")", x.classOf(key), key - 1);
        }
        long[] none = {0, 4, -1, Long.MIN_VALUE, Long.MAX_VALUE, (1L << 32) + 1};
        for (long key : none) {
            DUE.is("classOf(" + key + ")", x.classOf(key), NONE);
        }
        x.begin(0);
        DUE.is("none any more", x.classOf(1), NONE);
    }

    private static void many() {
        DUE.sentence("How many a MEMBER of a VALUE has; of one not in ARRAYS 1. BAD: no such VALUE, member.");
        StateMoves x = withAllTypes();
        for (int member : NO_MEMBERS) {
            DUE.is("member " + member, x.many(1, member), BAD);
            DUE.is("member " + member, x.many(2, member), BAD);
        }
        DUE.is("member 2 of two", x.many(3, 2), BAD);
        DUE.is("no such VALUE", x.many(4, 0), BAD);
        DUE.is("no such VALUE", x.many((1L << 32) + 1, 0), BAD);
        DUE.is("not in ARRAYS", x.many(3, 0), 1);
        x.set(3, 0, 5);
        DUE.is("not in ARRAYS, set", x.many(3, 0), 1);
        DUE.is("an empty row", x.many(3, 1), 0);
        x.add(3, 1, 0);
        DUE.is("a row of a 0", x.many(3, 1), 1);
    }

    private static void bits() {
        DUE.sentence("Bits of (element k of) a MEMBER of a VALUE (k 0, if it is not in ARRAYS); a FLOAT's as an int.");
        StateMoves x = withAllTypes();
        x.set(1, 6, 0xFF800000);
        DUE.is("a FLOAT's", x.bits(1, 6, 0), -8388608L);
        x.add(2, 6, 0x80000000);
        DUE.is("a FLOAT's in a row", x.bits(2, 6, 0), -2147483648L);
        for (int member = 0; member < 8; member++) {
            x.set(1, member, 1);
        }
        for (int member = 0; member < 8; member++) {
            DUE.is("k 0", x.bits(1, member, 0), 1);
            for (int k : NO_ELEMENTS) {
                DUE.is("k " + k, x.bits(1, member, k), 0);
            }
            DUE.is("k 1", x.bits(1, member, 1), 0);
        }
    }

    private static void bitsOfNone() {
        DUE.sentence("a FLOAT's as an int. 0: there is none.");
        StateMoves x = withAllTypes();
        for (int member = 0; member < 8; member++) {
            x.set(1, member, 1);
        }
        x.set(3, 0, 5);
        x.add(3, 1, 6);
        for (int member : NO_MEMBERS) {
            DUE.is("member " + member, x.bits(1, member, 0), 0);
        }
        DUE.is("member 2 of two", x.bits(3, 2, 0), 0);
        DUE.is("no such VALUE", x.bits(4, 0, 0), 0);
        DUE.is("an empty row", x.bits(2, 0, 0), 0);
        DUE.is("behind the last element", x.bits(3, 1, 1), 0);
        DUE.is("ahead of the first", x.bits(3, 1, -1), 0);
    }
}
