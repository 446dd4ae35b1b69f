/** The order of CARRYING, KEYS, UNKNOWN ones, what is LOST, and steps: each sentence that names an edge there. */
public final class EdgesOfCarryingTest {
    private static final Due DUE = new Due("EdgesOfCarryingTest");
    private static final int NONE = StateMoves.NONE, STATE = StateMoves.STATE;
    private static final long LEAST = Long.MIN_VALUE, MOST = Long.MAX_VALUE;

    public static void main(String[] args) {
        leastKeyFirst();
        sameNameWithoutMove();
        unknownWithoutName();
        newKey();
        membersInOrder();
        ruleElseNameElseFirst();
        firstValuesOfNewMembers();
        twoToOneKey();
        firstTwoOfIt();
        oneKeyOnlyThen();
        unknownInItsTurn();
        unknownDropped();
        refusedChangesNothing();
        refusedLaterChangesNothing();
        lostNotFirst();
        lostNotDropped();
        lostNotTold();
        lostNotGone();
        lostDroppedValues();
        directAheadOfSteps();
        stepsUpAndDown();
        oneStepLacks();
        lostOfAllSteps();
        refusedOfItsStep();
        DUE.end();
    }

    private static void refused(String what, StateMoves x, long... due) {
        for (int i = 0; i < 4; i++) {
            DUE.is(what + ": refused(" + i + ")", x.refused(i), due[i]);
        }
        DUE.is(what + ": refusedKey(false)", x.refusedKey(false), due[4]);
        DUE.is(what + ": refusedKey(true)", x.refusedKey(true), due[5]);
    }

    private static void lost(String what, StateMoves x, int members, int values) {
        DUE.is(what + ": lost(0)", x.lost(0), members);
        DUE.is(what + ": lost(1)", x.lost(1), values);
    }

    private static void leastKeyFirst() {
        DUE.sentence("Of each VALUE, by KEYS, the least first, what its CLASS's MOVE tells");
        StateMoves x = new StateMoves();
        Due.type(x, 0, "a", "x:5");
        Due.type(x, 1, "a", "x:1");
        long[] keys = {MOST, 0, LEAST, 1, -1};
        long[] sorted = {LEAST, -1, 0, 1, MOST};
        for (long key : keys) {
            x.value(key, 0);
            x.set(key, 0, 128);
        }
        x.rules(0, 1);
        for (long key : sorted) {
            DUE.is("dry", x.dry(1), NONE);
            refused("the least first", x, 1, 0, 0, 0, key, 0);
            x.set(key, 0, 127);
        }
        DUE.is("carry", x.carry(1), 5);
    }

    private static void sameNameWithoutMove() {
        DUE.sentence("without one it goes to the CLASS of the same NAME in the other BUILD as if a MOVE without RULES told so");
        StateMoves x = new StateMoves();
        Due.type(x, 0, "a", "x:4 r:4[]");
        Due.type(x, 0, "b", "x:4");
        Due.type(x, 7, "c", "");
        Due.type(x, 7, "b", "x:4");
        Due.type(x, 7, "d", "");
        Due.type(x, 7, "a", "r:5[] x:5 n:4");
        x.value(1, 0);
        x.set(1, 0, 5);
        x.add(1, 1, 6);
        x.value(2, 1);
        x.set(2, 0, 7);
        Due.rules(x, 0, 7, "move b to c{}");
        DUE.is("carry", x.carry(7), 2);
        DUE.same("a to a, b to c", Due.picture(x), "BUILD 7, VALUES 2\n1 of 3 [ 6 ] [ 5 ] [ 0 ]\n2 of 0\n");
        lost("b's x", x, 1, 0);
    }

    private static void unknownWithoutName() {
        DUE.sentence("if there is none it is UNKNOWN");
        StateMoves x = new StateMoves();
        Due.type(x, 0, "a", "x:4");
        Due.type(x, 1, "aa", "x:4");
        Due.type(x, 1, "x", "a:4");
        x.value(1, 0);
        x.rules(0, 1);
        DUE.is("a CLASS of another NAME alone", x.dry(1), NONE);
        refused("UNKNOWN", x, 6, 0, NONE, 0, 1, 0);
        DUE.is("a BUILD without CLASSES", x.rules(0, 2), 0);
        DUE.is("carry there", x.dry(2), NONE);
        DUE.is("a MOVE tells", Due.rules(x, 0, 1, "move a to aa{}"), 1);
        DUE.is("carry", x.carry(1), 1);
    }

    private static void newKey() {
        DUE.sentence("Of a MOVE first the new KEY (key, if there is a RULE, else the one that it has)");
        StateMoves x = new StateMoves();
        Due.type(x, 0, "a", "x:5");
        Due.type(x, 0, "b", "x:5");
        Due.type(x, 1, "a", "x:1 k:5");
        long[] keys = {LEAST, -1, 0, MOST};
        for (int i = 0; i < keys.length; i++) {
            x.value(keys[i], 0);
        }
        x.value(5, 1);
        Due.rules(x, 0, 1, "move a to a{k=key;key=-1-key;}move b to a{x=key;k=key;}");
        DUE.is("carry", x.carry(1), 5);
        DUE.same("the KEYS", Due.picture(x), "BUILD 1, VALUES 5\n" + LEAST + " of 0 [ 0 ] [ " + MOST + " ]\n-1 of 0 [ 0 ] [ 0 ]\n"
                + "0 of 0 [ 0 ] [ -1 ]\n5 of 0 [ 5 ] [ 5 ]\n" + MOST + " of 0 [ 0 ] [ " + LEAST + " ]\n");
        x.begin(0);
        x.value(3, 0);
        x.set(3, 0, 128);
        Due.rules(x, 0, 1, "move a to a{k=1/0;key=key/0;}");
        x.dry(1);
        refused("first the KEY", x, 4, 0, NONE, 0, 3, 0);
        Due.rules(x, 0, 1, "move a to a{k=1/0;key=key;}");
        x.dry(1);
        refused("then the MEMBERS", x, 1, 0, 0, 0, 3, 0);
    }

    private static void membersInOrder() {
        DUE.sentence("then the MEMBERS of the new CLASS, in order");
        StateMoves x = new StateMoves();
        Due.type(x, 0, "a", "h:5 g:5 f:5 e:5 d:5 c:5 b:5 a:5");
        Due.type(x, 1, "a", "a:1 b:1 c:1 d:1 e:1 f:1 g:1 h:1");
        x.value(1, 0);
        for (int member = 0; member < 8; member++) {
            x.set(1, member, member % 2 == 0 ? 128 : 0);
        }
        // Of every other MEMBER a RULE tells, and the last of them stands first in the text.
        Due.rules(x, 0, 1, "move a to a{g=1/g;e=1/e;c=1/c;a=1/a;}");
        for (int member = 0; member < 8; member++) {
            DUE.is("dry", x.dry(1), NONE);
            refused("MEMBER " + member, x, member % 2 == 0 ? 4 : 1, 0, member, 0, 1, 0);
            x.set(1, 7 - member, 1);
        }
        DUE.is("carry", x.carry(1), 1);
    }

    private static void ruleElseNameElseFirst() {
        DUE.sentence("what its RULE tells, else the MEMBER of the old one that has its NAME, is in ARRAYS just if it is, and is not dropped");
        StateMoves x = new StateMoves();
        Due.type(x, 0, "a", "a:4 b:4 c:4 d:4[] e:4[] f:4[] g:4 h:4[]");
        Due.type(x, 1, "a", "h:5 g:5[] f:5[] e:5[] d:5[] c:5 b:5 a:5");
        x.value(1, 0);
        for (int member = 0; member < 8; member++) {
            x.set(1, member, 10 + member);
            x.add(1, member, 10 + member);
        }
        Due.rules(x, 0, 1, "move a to a{a=b*2;drop c;d=e;drop f;}");
        DUE.is("carry", x.carry(1), 1);
        DUE.same("each in its way", Due.picture(x),
                "BUILD 1, VALUES 1\n1 of 0 [ 0 ] [ ] [ ] [ 14 ] [ 14 ] [ 0 ] [ 11 ] [ 22 ]\n");
        x.begin(0);
        x.value(1, 0);
        x.set(1, 2, 5);
        x.add(1, 5, 6);
        Due.rules(x, 0, 1, "move a to a{drop c;c=c;f=f;drop f;}");
        x.carry(1);
        DUE.same("a RULE takes dropped ones", Due.picture(x),
                "BUILD 1, VALUES 1\n1 of 0 [ 0 ] [ ] [ 6 ] [ ] [ ] [ 5 ] [ 0 ] [ 0 ]\n");
    }

    private static void firstValuesOfNewMembers() {
        DUE.sentence("else its first value (no row)");
        StateMoves x = new StateMoves();
        Due.type(x, 0, "a", "x:4");
        Due.type(x, 1, "a", "a:0 b:1 c:2 d:3 e:4 f:5 g:6 h:7");
        Due.type(x, 2, "a", "i:0[] j:1[] k:2[] l:3[] m:4[] n:5[] o:6[] p:7[]");
        x.value(1, 0);
        x.rules(0, 1);
        x.rules(1, 2);
        x.rules(2, 1);
        x.carry(1);
        DUE.same("first values", Due.picture(x), "BUILD 1, VALUES 1\n1 of 0 [ 0 ] [ 0 ] [ 0 ] [ 0 ] [ 0 ] [ 0 ] [ 0 ] [ 0 ]\n");
        for (int member = 0; member < 8; member++) {
            DUE.is("there is one", x.many(1, member), 1);
            DUE.is("it can be set", x.set(1, member, 1), 1);
        }
        x.carry(2);
        DUE.same("no rows", Due.picture(x), "BUILD 2, VALUES 1\n1 of 0 [ ] [ ] [ ] [ ] [ ] [ ] [ ] [ ]\n");
        for (int member = 0; member < 8; member++) {
            DUE.is("one can be added", x.add(1, member, 1), 1);
        }
        x.carry(1);
        DUE.same("again", Due.picture(x), "BUILD 1, VALUES 1\n1 of 0 [ 0 ] [ 0 ] [ 0 ] [ 0 ] [ 0 ] [ 0 ] [ 0 ] [ 0 ]\n");
    }

    private static StateMoves forKeys(long... newKeys) {
        StateMoves x = new StateMoves();
        Due.type(x, 0, "a", "k:5");
        Due.type(x, 1, "a", "");
        for (int i = 0; i < newKeys.length; i++) {
            x.value(i + 1, 0);
            x.set(i + 1, 0, newKeys[i]);
        }
        Due.rules(x, 0, 1, "move a to a{key=k;}");
        return x;
    }

    private static void twoToOneKey() {
        DUE.sentence("if two VALUES have come to one KEY: REFUSED 3, the least such KEY");
        StateMoves x = forKeys(MOST, 5, LEAST, MOST, 5, LEAST, 0);
        x.dry(1);
        refused("the least of three", x, 3, NONE, NONE, 0, 3, 6);
        x.set(6, 0, LEAST + 1);
        x.dry(1);
        refused("the least of two", x, 3, NONE, NONE, 0, 2, 5);
        x.set(5, 0, 4);
        x.dry(1);
        refused("the last one", x, 3, NONE, NONE, 0, 1, 4);
        x.set(4, 0, MOST - 1);
        DUE.is("no two any more", x.carry(1), 7);
        x = new StateMoves();
        Due.type(x, 0, "a", "");
        Due.type(x, 0, "b", "");
        Due.type(x, 1, "a", "");
        x.value(1, 0);
        x.value(2, 1);
        Due.rules(x, 0, 1, "move b to a{key=1;}");
        DUE.is("one has it, one comes to it", x.carry(1), NONE);
        refused("of two CLASSES", x, 3, NONE, NONE, 0, 1, 2);
    }

    private static void firstTwoOfIt() {
        DUE.sentence("told by the old ones of the first two that come to it");
        StateMoves x = forKeys(9, 9, 9, 9);
        x.dry(1);
        refused("of four", x, 3, NONE, NONE, 0, 1, 2);
        x.set(1, 0, 8);
        x.dry(1);
        refused("of three", x, 3, NONE, NONE, 0, 2, 3);
        x.set(3, 0, 10);
        x.dry(1);
        refused("of two", x, 3, NONE, NONE, 0, 2, 4);
        x = new StateMoves();
        Due.type(x, 0, "a", "");
        Due.type(x, 1, "a", "");
        for (int i = 60; i > 0; i--) {
            x.value(-i, 0);
        }
        Due.rules(x, 0, 1, "move a to a{key=0;}");
        DUE.is("sixty to one", x.carry(1), NONE);
        refused("of sixty", x, 3, NONE, NONE, 0, -60, -59);
        Due.rules(x, 0, 1, "move a to a{key=key/59;}");
        x.dry(1);
        refused("the least of two KEYS", x, 3, NONE, NONE, 0, -60, -59);
        Due.rules(x, 0, 1, "move a to a{key=-key/59;}");
        x.dry(1);
        refused("the least of two KEYS, the others", x, 3, NONE, NONE, 0, -58, -57);
    }

    private static void oneKeyOnlyThen() {
        DUE.sentence("Then, if two VALUES have come to one KEY: REFUSED 3");
        StateMoves x = new StateMoves();
        Due.type(x, 0, "a", "x:4");
        Due.type(x, 0, "u", "");
        Due.type(x, 1, "a", "x:1");
        x.value(1, 0);
        x.value(2, 0);
        x.value(3, 0);
        x.set(3, 0, 128);
        Due.rules(x, 0, 1, "move a to a{key=0;}");
        x.dry(1);
        refused("behind a TYPE", x, 1, 0, 0, 0, 3, 0);
        x.set(3, 0, 0);
        x.value(4, 1);
        x.dry(1);
        refused("behind UNKNOWN", x, 6, 1, NONE, 0, 4, 0);
        x.unknown(1);
        x.dry(1);
        refused("only then", x, 3, NONE, NONE, 0, 1, 2);
        x.begin(0);
        x.value(1, 0);
        x.value(2, 1);
        Due.rules(x, 0, 1, "move a to a{key=2;}");
        DUE.is("a dropped VALUE comes to none", x.carry(1), 1);
        DUE.is("the KEY of the dropped one", x.key(0), 2);
    }

    private static void unknownInItsTurn() {
        DUE.sentence("UNKNOWN ones: REFUSED 6 (as soon as it is their turn)");
        StateMoves x = new StateMoves();
        Due.type(x, 0, "a", "x:4");
        Due.type(x, 0, "u", "x:4");
        Due.type(x, 1, "a", "x:1");
        x.value(1, 0);
        x.value(2, 1);
        x.value(3, 0);
        x.set(1, 0, 128);
        x.set(3, 0, 128);
        x.rules(0, 1);
        x.dry(1);
        refused("ahead of its turn", x, 1, 0, 0, 0, 1, 0);
        x.set(1, 0, 127);
        x.dry(1);
        refused("in its turn", x, 6, 1, NONE, 0, 2, 0);
        x.unknown(1);
        x.dry(1);
        refused("behind its turn", x, 1, 0, 0, 0, 3, 0);
    }

    private static void unknownDropped() {
        DUE.sentence("REFUSED 6 (as soon as it is their turn), or dropped, as is set.");
        StateMoves x = new StateMoves();
        Due.type(x, 0, "u", "x:4");
        for (int i = 0; i < 60; i++) {
            x.value(i, 0);
            x.set(i, 0, 1);
        }
        x.rules(0, 1);
        DUE.is("REFUSED", x.carry(1), NONE);
        DUE.is("unknown(1)", x.unknown(1), 0);
        for (int round = 0; round < 3; round++) {
            DUE.is("dropped", x.dry(1), 0);
            lost("dropped", x, 0, 60);
        }
        DUE.is("unknown(0)", x.unknown(0), 1);
        DUE.is("REFUSED", x.carry(1), NONE);
        lost("as before", x, 0, 60);
        x.unknown(1);
        DUE.is("carry", x.carry(1), 0);
        DUE.is("no VALUES", x.told(1), 0);
    }

    private static void refusedChangesNothing() {
        DUE.sentence("If it is REFUSED nothing is changed.");
        StateMoves x = new StateMoves();
        Due.type(x, 0, "a", "x:5 r:5[] y:5");
        Due.type(x, 0, "u", "");
        Due.type(x, 1, "a", "x:1 r:1[]");
        for (int key = 1; key <= 3; key++) {
            x.value(key, 0);
            x.set(key, 0, key);
            x.add(key, 1, 10 * key);
            x.set(key, 2, 1);
        }
        x.rules(0, 1);
        x.dry(1);
        lost("before", x, 3, 0);
        x.set(3, 0, 128);
        String before = Due.picture(x);
        String[] texts = {"", "move a to a{x=1/(key-3);}", "move a to a{key=0;x=1;}", "move a to a{x=r[key-2];}",
            "move a to a{x=key*key*0;key=2147483647*2147483647*key;}"};
        int[] why = {1, 4, 3, 5, 2};
        for (int i = 0; i < texts.length; i++) {
            Due.rules(x, 0, 1, texts[i]);
            DUE.is("dry with «" + texts[i] + "»", x.dry(1), NONE);
            DUE.is("carry", x.carry(1), NONE);
            DUE.is("why", x.refused(0), why[i]);
            DUE.same("nothing is changed", Due.picture(x), before);
            lost("as before", x, 3, 0);
        }
        x.value(4, 1);
        x.rules(0, 1);
        x.set(3, 0, 3);
        before = Due.picture(x);
        DUE.is("carry with an UNKNOWN one", x.carry(1), NONE);
        DUE.same("nothing is changed", Due.picture(x), before);
    }

    /** BUILDS 0, 1, .. with a CLASS of one LONG, and RULES from each to the next. */
    private static StateMoves chain(int builds, String work) {
        StateMoves x = new StateMoves();
        for (int build = 0; build < builds; build++) {
            Due.type(x, build, "a", "x:5");
        }
        for (int build = 0; build + 1 < builds; build++) {
            Due.rules(x, build, build + 1, "move a to a{x=" + work + ";key=key+10;}");
        }
        return x;
    }

    private static void refusedLaterChangesNothing() {
        DUE.sentence("If it is REFUSED nothing is changed.");
        StateMoves x = chain(8, "x+1");
        for (int key = 1; key <= 3; key++) {
            x.value(key, 0);
            x.set(key, 0, key);
        }
        // THE STATE has come by two steps, and two steps more are tried on: none may work on what it is made of.
        DUE.is("two steps", x.carry(2), 3);
        String before = Due.picture(x);
        DUE.same("two steps", before, "BUILD 2, VALUES 3\n21 of 0 [ 3 ]\n22 of 0 [ 4 ]\n23 of 0 [ 5 ]\n");
        for (int build = 3; build < 8; build++) {
            DUE.is("dry(" + build + ")", x.dry(build), 3);
            DUE.same("THE STATE stays", Due.picture(x), before);
        }
        Due.rules(x, 5, 6, "move a to a{x=1/(key-52);}");
        DUE.is("dry(6)", x.dry(6), NONE);
        refused("in the last step", x, 4, 0, 0, 3, 52, 0);
        DUE.is("carry(6)", x.carry(6), NONE);
        DUE.is("carry(7)", x.carry(7), NONE);
        DUE.same("nothing is changed", Due.picture(x), before);
        DUE.is("one step", x.carry(3), 3);
        DUE.same("one step", Due.picture(x), "BUILD 3, VALUES 3\n31 of 0 [ 4 ]\n32 of 0 [ 5 ]\n33 of 0 [ 6 ]\n");
        DUE.is("dry(5)", x.dry(5), 3);
        x.set(31, 0, 40);
        DUE.same("its own MEMBERS", Due.picture(x), "BUILD 3, VALUES 3\n31 of 0 [ 40 ]\n32 of 0 [ 5 ]\n33 of 0 [ 6 ]\n");
        DUE.is("carry(5)", x.carry(5), 3);
        DUE.same("two steps", Due.picture(x), "BUILD 5, VALUES 3\n51 of 0 [ 42 ]\n52 of 0 [ 7 ]\n53 of 0 [ 8 ]\n");
    }

    private static void lostNotFirst() {
        DUE.sentence("MEMBERS of old VALUES that are not their first value (a row that has something)");
        StateMoves x = new StateMoves();
        Due.type(x, 0, "a", "a:0 b:1 c:2 d:3 e:4 f:5 g:6 h:7");
        Due.type(x, 0, "b", "a:0[] b:1[] c:2[] d:3[] e:4[] f:5[] g:6[] h:7[]");
        Due.type(x, 1, "a", "");
        Due.type(x, 1, "b", "");
        x.value(1, 0);
        x.rules(0, 1);
        for (int member = 0; member < 8; member++) {
            x.dry(1);
            lost("first values", x, 0, 0);
            x.set(1, member, 1);
            x.dry(1);
            lost("one of TYPE " + member + " that is not", x, 1, 0);
            x.set(1, member, 0);
        }
        x.set(1, 6, Integer.MIN_VALUE);
        x.set(1, 7, LEAST);
        x.dry(1);
        lost("-0 is not 0.0", x, 2, 0);
        x.begin(0);
        x.value(2, 1);
        for (int member = 0; member < 8; member++) {
            x.dry(1);
            lost("rows that have something", x, member, 0);
            x.add(2, member, 0);
        }
        x.value(3, 1);
        x.add(3, 7, 0);
        x.dry(1);
        lost("of each VALUE", x, 9, 0);
    }

    /** A VALUE whose eight MEMBERS (LONGS, the last in ARRAYS) are not first values, to a CLASS with a and h of them. */
    private static StateMoves forLoss(String rules) {
        StateMoves x = new StateMoves();
        Due.type(x, 0, "a", "a:5 b:5 c:5 d:5 e:5 f:5 g:5 h:5[]");
        Due.type(x, 1, "a", "o:5 p:5 q:5[] a:5 h:5[]");
        x.value(1, 0);
        for (int member = 0; member < 7; member++) {
            x.set(1, member, 1);
        }
        x.add(1, 7, 1);
        DUE.is("rules «" + rules + "»", Due.rules(x, 0, 1, rules), rules.isEmpty() ? 0 : 1);
        return x;
    }

    private static void loses(String rules, int members) {
        StateMoves x = forLoss(rules);
        DUE.is("dry with «" + rules + "»", x.dry(1), 1);
        lost("«" + rules + "»", x, members, 0);
        DUE.is("carry with «" + rules + "»", x.carry(1), 1);
        lost("«" + rules + "»", x, members, 0);
    }

    private static void lostNotDropped() {
        DUE.sentence("were not dropped by a RULE");
        loses("move a to a{}", 6);
        loses("move a to a{drop b;}", 5);
        loses("move a to a{drop g;}", 5);
        loses("move a to a{drop a;}", 6);
        loses("move a to a{drop h;}", 6);
        loses("move a to a{drop a;drop b;drop c;drop d;drop e;drop f;drop g;drop h;}", 0);
    }

    private static void lostNotTold() {
        DUE.sentence("are not told in E's of their MOVE");
        loses("move a to a{o=b;}", 5);
        loses("move a to a{o=g;}", 5);
        loses("move a to a{o=b*0;}", 5);
        loses("move a to a{o=b+c;p=d;}", 3);
        loses("move a to a{o=h[a-f];}", 5);
        loses("move a to a{o=-(b)%g;}", 4);
        loses("move a to a{key=key+b;}", 5);
        loses("move a to a{key=#h;}", 6);
        loses("move a to a{q=h;h=h;}", 6);
        loses("move a to a{q=h;drop h;}", 6);
        loses("move a to a{a=b+c+d+e+f+g;}", 1);
        loses("move a to a{a=a;}", 6);
        loses("move a to a{a=a*0+1;}", 6);
        loses("move a to a{a=1;o=a;}", 6);
        loses("move a to a{a=1;key=key+a-1;}", 6);
        lostRowsNotTold();
        StateMoves x = new StateMoves();
        Due.type(x, 0, "a", "x:5");
        Due.type(x, 0, "b", "x:5");
        Due.type(x, 1, "c", "y:5");
        x.value(1, 0);
        x.set(1, 0, 1);
        x.value(2, 1);
        x.set(2, 0, 1);
        Due.rules(x, 0, 1, "move a to c{y=x;}move b to c{}");
        x.dry(1);
        lost("not in E's of another MOVE", x, 1, 0);
    }

    private static void lostRowsNotTold() {
        String[] rules = {"", "n=1;", "n=#r;", "n=r[0];", "key=#r;", "key=r[0];", "q=r;", "drop r;"};
        for (int i = 0; i < rules.length; i++) {
            StateMoves x = new StateMoves();
            Due.type(x, 0, "a", "r:5[]");
            Due.type(x, 1, "a", "n:5 q:5[]");
            x.value(1, 0);
            x.add(1, 0, 0);
            Due.rules(x, 0, 1, "move a to a{" + rules[i] + "}");
            DUE.is("dry with " + rules[i], x.dry(1), 1);
            lost("a row with «" + rules[i] + "»", x, i < 2 ? 1 : 0, 0);
        }
    }

    private static void lostNotGone() {
        DUE.sentence("and did not go to a MEMBER of their NAME");
        loses("", 6);
        loses("move a to a{a=1;}", 7);
        loses("move a to a{a=b;}", 6);
        loses("move a to a{o=1;p=2;}", 6);
        StateMoves x = new StateMoves();
        Due.type(x, 0, "a", "x:5 r:5[]");
        Due.type(x, 1, "a", "x:5[] r:5");
        x.value(1, 0);
        x.set(1, 0, 1);
        x.add(1, 1, 1);
        x.rules(0, 1);
        x.dry(1);
        lost("in ARRAYS in one of them alone", x, 2, 0);
    }

    private static void lostDroppedValues() {
        DUE.sentence("dropped VALUES count for themselves");
        StateMoves x = new StateMoves();
        Due.type(x, 0, "a", "x:5");
        Due.type(x, 0, "b", "x:5");
        Due.type(x, 0, "u", "x:5");
        Due.type(x, 1, "a", "");
        Due.type(x, 1, "b", "");
        for (int key = 1; key <= 9; key++) {
            x.value(key, key % 3);
            x.set(key, 0, 1);
        }
        x.unknown(1);
        Due.rules(x, 0, 1, "drop b;");
        for (int round = 0; round < 3; round++) {
            DUE.is("dry", x.dry(1), 3);
            lost("MEMBERS of a, VALUES of b and u", x, 3, 6);
        }
        Due.rules(x, 0, 1, "drop b;drop u;drop a;");
        DUE.is("carry", x.carry(1), 0);
        lost("VALUES of all", x, 0, 9);
    }

    private static void directAheadOfSteps() {
        DUE.sentence("A carrying from f to t goes by the RULES from f to t, if there are such (also an empty text)");
        StateMoves x = chain(4, "x+1");
        x.value(1, 0);
        DUE.is("an empty text", x.rules(0, 3), 0);
        DUE.is("carry(3)", x.carry(3), 1);
        DUE.same("at once", Due.picture(x), "BUILD 3, VALUES 1\n1 of 0 [ 0 ]\n");
        x.begin(0);
        x.value(1, 0);
        Due.rules(x, 0, 3, "move a to a{x=1/0;}");
        DUE.is("REFUSED, though the steps would do", x.carry(3), NONE);
        refused("in step 0", x, 4, 0, 0, 0, 1, 0);
        x.forget(0, 3);
        DUE.is("step by step", x.carry(3), 1);
        DUE.same("three steps", Due.picture(x), "BUILD 3, VALUES 1\n31 of 0 [ 3 ]\n");
        Due.rules(x, 3, 0, "move a to a{x=x*2;key=1;}");
        DUE.is("back at once", x.carry(0), 1);
        DUE.same("back", Due.picture(x), "BUILD 0, VALUES 1\n1 of 0 [ 6 ]\n");
    }

    private static void stepsUpAndDown() {
        DUE.sentence("else, step by step, by those from f to f + 1 (f - 1, if t is less), and on");
        StateMoves x = chain(8, "x*2+1");
        for (int build = 7; build > 0; build--) {
            Due.rules(x, build, build - 1, "move a to a{x=x/2;key=key-10;}");
        }
        x.value(1, 0);
        x.set(1, 0, 1);
        DUE.is("seven steps", x.dry(7), 1);
        DUE.is("seven steps", x.carry(7), 1);
        DUE.same("all the way", Due.picture(x), "BUILD 7, VALUES 1\n71 of 0 [ 255 ]\n");
        DUE.is("seven steps back", x.dry(0), 1);
        DUE.is("seven steps back", x.carry(0), 1);
        DUE.same("all the way back", Due.picture(x), "BUILD 0, VALUES 1\n1 of 0 [ 1 ]\n");
        x.carry(1);
        for (int to = 2; to < 8; to++) {
            int steps = to - 1;
            DUE.is("up " + steps, x.carry(to), 1);
            DUE.is("its x", x.bits(10 * to + 1, 0, 0), (2L << to) - 1);
            DUE.is("down " + steps, x.carry(1), 1);
            DUE.is("its x", x.bits(11, 0, 0), 3);
        }
    }

    private static void oneStepLacks() {
        DUE.sentence("if one of these lacks, it can't be");
        for (int lacking = 0; lacking < 7; lacking++) {
            StateMoves x = chain(8, "x+1");
            x.value(1, 0);
            x.forget(lacking, lacking + 1);
            // Longer strides, and those back, are no steps.
            x.rules(lacking + 1, lacking);
            if (lacking < 6) {
                x.rules(lacking, lacking + 2);
            }
            for (int to = 1; to < 8; to++) {
                boolean isDirect = lacking == 0 && to == 2;
                DUE.is("to " + to + " without " + lacking, x.dry(to), to <= lacking || isDirect ? 1 : STATE);
            }
            DUE.is("carry(7)", x.carry(7), STATE);
            DUE.is("not one step is taken", x.told(0), 0);
            DUE.is("nothing is REFUSED", x.refused(0), NONE);
        }
        StateMoves x = chain(8, "x+1");
        x.begin(7);
        for (int to = 0; to < 7; to++) {
            DUE.is("down to " + to, x.carry(to), STATE);
        }
    }

    private static void lostOfAllSteps() {
        DUE.sentence("LOST is of all steps together");
        StateMoves x = new StateMoves();
        Due.type(x, 0, "a", "x:5 y:5");
        Due.type(x, 0, "b", "");
        Due.type(x, 1, "a", "x:5 z:5");
        Due.type(x, 1, "c", "");
        Due.type(x, 2, "a", "x:5 w:5");
        Due.type(x, 3, "a", "");
        for (int key = 1; key <= 4; key++) {
            x.value(key, key % 2);
            x.set(key, 0, 1);
            x.set(key, 1, 1);
        }
        x.value(5, 1);
        Due.rules(x, 0, 1, "move a to a{z=7;}move b to c{key=key+100;}");
        Due.rules(x, 1, 2, "move a to a{w=key;}drop c;");
        x.rules(2, 3);
        for (int round = 0; round < 2; round++) {
            DUE.is("one step", x.dry(1), 5);
            lost("y twice", x, 2, 0);
            DUE.is("two steps", x.dry(2), 2);
            lost("z too, and c", x, 4, 3);
            DUE.is("three steps", x.dry(3), 2);
            lost("x and w too", x, 8, 3);
        }
        Due.rules(x, 2, 3, "move a to a{key=0;}");
        DUE.is("REFUSED in the last step", x.dry(3), NONE);
        lost("of the one before", x, 8, 3);
        DUE.is("no RULES", x.dry(4), STATE);
        lost("of the one before", x, 8, 3);
    }

    private static void refusedOfItsStep() {
        DUE.sentence("what is REFUSED is told as its step has it (KEYS, CLASSES, MEMBERS of that step)");
        StateMoves x = new StateMoves();
        Due.type(x, 3, "a", "x:5");
        Due.type(x, 4, "u", "");
        Due.type(x, 4, "a", "x:5");
        Due.type(x, 5, "u", "");
        Due.type(x, 5, "v", "");
        Due.type(x, 5, "a", "n:5 x:1");
        x.begin(3);
        x.value(1, 0);
        x.value(2, 0);
        x.set(1, 0, 100);
        x.set(2, 0, 200);
        Due.rules(x, 3, 4, "move a to a{key=50-key;}");
        x.rules(4, 5);
        DUE.is("carry(5)", x.carry(5), NONE);
        refused("TYPE", x, 1, 1, 1, 1, 48, 0);
        Due.rules(x, 4, 5, "move a to a{key=key/0;}");
        x.dry(5);
        refused("by 0, of a KEY", x, 4, 1, NONE, 1, 48, 0);
        Due.rules(x, 4, 5, "move a to u{key=1;}");
        x.dry(5);
        refused("one KEY", x, 3, NONE, NONE, 1, 48, 49);
        Due.rules(x, 4, 5, "move u to a{}drop a;");
        DUE.is("dropped", x.dry(5), 0);
        Due.rules(x, 3, 4, "move a to u{}");
        Due.type(x, 6, "a", "");
        Due.rules(x, 4, 5, "move u to v{}");
        x.rules(5, 6);
        DUE.is("carry(6)", x.carry(6), NONE);
        refused("UNKNOWN", x, 6, 1, NONE, 2, 1, 0);
    }
}
