/** Promises 11 to 16, unknown to lost: each sentence that names an edge. */
public final class EdgesOfTellingTest {
    private static final Due DUE = new Due("EdgesOfTellingTest");
    private static final int NONE = StateMoves.NONE, BAD = StateMoves.BAD, STATE = StateMoves.STATE;
    private static final int[] NO_BUILDS = {-1, 8, 9, Integer.MIN_VALUE, Integer.MAX_VALUE};

    public static void main(String[] args) {
        unknownWasSet();
        unknownBad();
        carryHowMany();
        carryRefused();
        carryBad();
        carryState();
        dryTells();
        dryStays();
        refusedLatest();
        refusedWhy();
        refusedClass();
        refusedMember();
        refusedStep();
        refusedNone();
        refusedBad();
        refusedOldKey();
        refusedOtherKey();
        refusedKeyWithout();
        lostLatest();
        lostBefore();
        lostBad();
        afterTheLastCall();
        DUE.end();
    }

    private static void refused(String what, StateMoves x, long... due) {
        for (int i = 0; i < 4; i++) {
            DUE.is(what + ": refused(" + i + ")", x.refused(i), due[i]);
        }
        DUE.is(what + ": refusedKey(false)", x.refusedKey(false), due[4]);
        DUE.is(what + ": refusedKey(true)", x.refusedKey(true), due[5]);
    }

    private static void lost(String what, StateMoves x, int members, int values) {
        DUE.is(what + ": lost(0)", x.lost(0), members);
        DUE.is(what + ": lost(1)", x.lost(1), values);
    }

    /** BUILDS 0 to 2; of BUILD 0 CLASS 1 is a with x, y and r in ARRAYS, CLASS 2 is UNKNOWN; a VALUE of KEY 5. */
    private static StateMoves fresh() {
        StateMoves x = new StateMoves();
        Due.type(x, 0, "b", "");
        Due.type(x, 0, "a", "x:5 y:5 r:5[]");
        Due.type(x, 0, "u", "y:5");
        Due.type(x, 1, "a", "n:5 m:5 x:1 r:5[]");
        Due.type(x, 2, "a", "x:1");
        x.value(5, 1);
        return x;
    }

    private static void unknownWasSet() {
        DUE.sentence("UNKNOWN VALUES are REFUSED (0), or dropped (1): what was set.");
        StateMoves x = fresh();
        DUE.is("unknown(0), new", x.unknown(0), 0);
        DUE.is("unknown(1)", x.unknown(1), 0);
        DUE.is("unknown(1) again", x.unknown(1), 1);
        DUE.is("unknown(0)", x.unknown(0), 1);
        DUE.is("unknown(0) again", x.unknown(0), 0);
        x.value(6, 2);
        x.rules(0, 1);
        DUE.is("REFUSED", x.dry(1), NONE);
        x.unknown(1);
        DUE.is("dropped", x.dry(1), 1);
        x.begin(3);
        x.begin(0);
        DUE.is("begin() leaves it", x.unknown(1), 1);
    }

    private static void unknownBad() {
        DUE.sentence("or dropped (1): what was set. BAD.");
        StateMoves x = fresh();
        int[] none = {-1, 2, 3, 256, Integer.MIN_VALUE, Integer.MAX_VALUE};
        for (int how : none) {
            DUE.is("unknown(" + how + ")", x.unknown(how), BAD);
            DUE.is("BAD leaves 0", x.unknown(0), 0);
        }
        x.unknown(1);
        for (int how : none) {
            DUE.is("unknown(" + how + ")", x.unknown(how), BAD);
            DUE.is("BAD leaves 1", x.unknown(1), 1);
        }
    }

    private static void carryHowMany() {
        DUE.sentence("THE STATE is carried to another BUILD: how many VALUES it has then.");
        StateMoves x = new StateMoves();
        for (int build = 0; build < 8; build++) {
            Due.type(x, build, "a", "");
            Due.type(x, build, "b", "");
        }
        x.rules(0, 7);
        DUE.is("none", x.carry(7), 0);
        DUE.is("the BUILD", x.told(0), 7);
        x.rules(7, 0);
        DUE.is("none back", x.carry(0), 0);
        DUE.is("the BUILD", x.told(0), 0);
        for (int i = 0; i < 60; i++) {
            x.value(i, i % 3 == 0 ? 0 : 1);
        }
        DUE.is("sixty", x.carry(7), 60);
        DUE.is("told(1)", x.told(1), 60);
        DUE.is("FULL there", x.value(60, 0), StateMoves.FULL);
        DUE.is("of its CLASSES", x.classOf(0) * 10 + x.classOf(59), 1);
        Due.rules(x, 7, 0, "drop b;");
        DUE.is("twenty of sixty", x.carry(0), 20);
        DUE.is("told(1)", x.told(1), 20);
        DUE.is("the last KEY", x.key(19), 57);
        DUE.is("no more", x.key(20), 0);
        DUE.is("room again", x.value(60, 0), 21);
    }

    private static void carryRefused() {
        DUE.sentence("how many VALUES it has then. NONE: it is REFUSED");
        StateMoves x = fresh();
        x.set(5, 0, 128);
        x.rules(0, 1);
        DUE.is("no BYTE", x.carry(1), NONE);
        DUE.is("the BUILD stays", x.told(0), 0);
        x.set(5, 0, 127);
        DUE.is("a BYTE", x.carry(1), 1);
        DUE.is("the BUILD", x.told(0), 1);
    }

    private static void carryBad() {
        DUE.sentence("BAD: no build, or the one that it is of");
        StateMoves x = new StateMoves();
        for (int from = 0; from < 8; from++) {
            for (int to = 0; to < 8; to++) {
                x.rules(from, to);
            }
        }
        for (int build = 0; build < 8; build++) {
            x.begin(build);
            DUE.is("carry to its own", x.carry(build), BAD);
            DUE.is("dry to its own", x.dry(build), BAD);
            for (int none : NO_BUILDS) {
                DUE.is("carry(" + none + ")", x.carry(none), BAD);
                DUE.is("dry(" + none + ")", x.dry(none), BAD);
            }
            DUE.is("it stays", x.told(0), build);
        }
    }

    private static void carryState() {
        DUE.sentence("STATE: there are no RULES that lead there.");
        for (int from = 0; from < 8; from++) {
            StateMoves x = new StateMoves();
            x.begin(from);
            for (int to = 0; to < 8; to++) {
                DUE.is("carry(" + to + ") from " + from, x.carry(to), to == from ? BAD : STATE);
                DUE.is("dry(" + to + ") from " + from, x.dry(to), to == from ? BAD : STATE);
            }
            int far = (from + 4) % 8;
            x.rules(far, from);
            DUE.is("those back do not lead there", x.carry(far), STATE);
            x.rules(from, far);
            DUE.is("now there are", x.carry(far), 0);
        }
        StateMoves x = fresh();
        x.set(5, 0, 128);
        x.rules(0, 1);
        DUE.is("ahead of REFUSED", x.carry(2), STATE);
        DUE.is("nothing is REFUSED", x.refused(0), NONE);
        x.rules(1, 2);
        DUE.is("REFUSED", x.carry(2), NONE);
    }

    private static void dryTells() {
        DUE.sentence("As carry(), and tells what it would");
        StateMoves x = fresh();
        x.value(6, 2);
        x.set(5, 0, 128);
        x.set(5, 1, 1);
        DUE.is("STATE", x.dry(1), STATE);
        x.rules(0, 1);
        DUE.is("NONE", x.dry(1), NONE);
        refused("what carry() would", x, 1, 1, 2, 0, 5, 0);
        x.set(5, 0, 1);
        DUE.is("NONE", x.dry(1), NONE);
        refused("what carry() would", x, 6, 2, NONE, 0, 6, 0);
        x.unknown(1);
        DUE.is("one", x.dry(1), 1);
        lost("what carry() would", x, 1, 1);
        DUE.is("and carry()", x.carry(1), 1);
        lost("and carry()", x, 1, 1);
        DUE.is("its own BUILD now", x.dry(1), BAD);
    }

    private static void dryStays() {
        DUE.sentence("THE STATE stays.");
        StateMoves x = fresh();
        x.value(6, 0);
        x.set(5, 0, 7);
        x.set(5, 1, 8);
        x.add(5, 2, 9);
        x.unknown(1);
        Due.rules(x, 0, 1, "move a to a{key=key*2;n=x;r=r;}");
        Due.rules(x, 1, 2, "drop a;");
        String before = Due.picture(x);
        for (int round = 0; round < 3; round++) {
            DUE.is("dry(1)", x.dry(1), 1);
            DUE.same("it stays", Due.picture(x), before);
            DUE.is("dry(2)", x.dry(2), 0);
            DUE.same("it stays", Due.picture(x), before);
        }
        x.set(5, 0, 6);
        DUE.is("it takes what is set", x.bits(5, 0, 0), 6);
        DUE.is("carry", x.carry(1), 1);
        DUE.same("and is carried so", Due.picture(x), "BUILD 1, VALUES 1\n10 of 0 [ 6 ] [ 0 ] [ 6 ] [ 9 ]\n");
    }

    private static void refusedLatest() {
        DUE.sentence("Of the latest carry() or dry() that answered NONE");
        StateMoves x = fresh();
        x.set(5, 0, 128);
        x.rules(0, 1);
        x.carry(1);
        refused("of carry()", x, 1, 1, 2, 0, 5, 0);
        Due.rules(x, 0, 1, "move a to a{m=1/0;}");
        x.dry(1);
        refused("of dry()", x, 4, 1, 1, 0, 5, 0);
        Due.rules(x, 0, 1, "move a to a{key=1;x=1;}");
        x.carry(0);
        x.carry(8);
        x.carry(3);
        refused("BAD and STATE leave it", x, 4, 1, 1, 0, 5, 0);
        x.dry(1);
        x.carry(1);
        refused("those that are not REFUSED leave it", x, 4, 1, 1, 0, 5, 0);
        x.begin(0);
        x.forget(0, 1);
        refused("begin() and forget() leave it", x, 4, 1, 1, 0, 5, 0);
    }

    private static void refusedWhy() {
        DUE.sentence("what = 0 why (1 to 6)");
        String[] works = {"x=x;", "x=x*x*x*x*x*x*x*x*x*x;", "key=0;x=0;", "x=1%0;", "x=r[0];"};
        for (int i = 0; i < works.length; i++) {
            StateMoves x = fresh();
            x.value(6, 1);
            x.set(5, 0, 128);
            Due.rules(x, 0, 1, "move a to a{" + works[i] + "}");
            DUE.is("dry with " + works[i], x.dry(1), NONE);
            DUE.is("why", x.refused(0), i + 1);
        }
        StateMoves x = fresh();
        x.value(4, 2);
        x.rules(0, 1);
        x.dry(1);
        DUE.is("UNKNOWN", x.refused(0), 6);
    }

    private static void refusedClass() {
        DUE.sentence("1 the old CLASS's number (of 3 NONE)");
        for (int cls = 0; cls < 6; cls++) {
            StateMoves x = new StateMoves();
            for (int i = 0; i < 6; i++) {
                x.type(0, 'a' + i);
            }
            x.type(1, 'a' + cls);
            x.value(1, cls);
            String name = String.valueOf((char) ('a' + cls));
            Due.rules(x, 0, 1, "move " + name + " to " + name + "{key=1/0;}");
            x.dry(1);
            DUE.is("of the KEY", x.refused(1), cls);
            x.rules(0, 2);
            x.dry(2);
            DUE.is("UNKNOWN", x.refused(1), cls);
            DUE.is("why", x.refused(0), 6);
            x.value(2, cls);
            Due.rules(x, 0, 1, "move " + name + " to " + name + "{key=1;}");
            x.dry(1);
            DUE.is("of 3", x.refused(1), NONE);
            DUE.is("why", x.refused(0), 3);
        }
    }

    private static void refusedMember() {
        DUE.sentence("2 the MEMBER's number in the new CLASS (NONE: the KEY, or 3, 6)");
        String names = "abcdefgh";
        for (int member = 0; member < 8; member++) {
            StateMoves x = new StateMoves();
            Due.type(x, 0, "a", "a:5");
            Due.type(x, 1, "a", "a:5 b:5 c:5 d:5 e:5 f:5 g:5 h:5");
            x.value(1, 0);
            Due.rules(x, 0, 1, "move a to a{" + names.charAt(member) + "=1/0;}");
            x.dry(1);
            refused("MEMBER " + member, x, 4, 0, member, 0, 1, 0);
        }
        StateMoves x = fresh();
        x.set(5, 0, 128);
        Due.rules(x, 0, 1, "move a to a{key=1/0;}");
        x.dry(1);
        refused("the KEY", x, 4, 1, NONE, 0, 5, 0);
        Due.rules(x, 0, 1, "move a to a{key=r[x];}");
        x.dry(1);
        refused("the KEY", x, 5, 1, NONE, 0, 5, 0);
        Due.rules(x, 0, 1, "move a to a{x=1;key=1;}");
        x.value(6, 1);
        x.dry(1);
        refused("3", x, 3, NONE, NONE, 0, 5, 6);
        x.value(4, 2);
        x.dry(1);
        refused("6", x, 6, 2, NONE, 0, 4, 0);
    }

    private static void refusedStep() {
        DUE.sentence("3 which step (from 0 on)");
        for (int step = 0; step < 7; step++) {
            StateMoves x = new StateMoves();
            for (int build = 0; build < 8; build++) {
                Due.type(x, build, "a", "");
            }
            for (int build = 0; build < 7; build++) {
                Due.rules(x, build, build + 1, build == step ? "move a to a{key=1/0;}" : "move a to a{key=key+1;}");
                Due.rules(x, build + 1, build, build == 6 - step ? "move a to a{key=1/0;}" : "move a to a{key=key+1;}");
            }
            x.value(0, 0);
            DUE.is("carry(7)", x.carry(7), NONE);
            refused("up", x, 4, 0, NONE, step, step, 0);
            x.begin(7);
            x.value(0, 0);
            DUE.is("carry(0)", x.carry(0), NONE);
            refused("down", x, 4, 0, NONE, step, step, 0);
            Due.rules(x, 7, 0, "move a to a{key=1/0;}");
            x.carry(0);
            refused("at once", x, 4, 0, NONE, 0, 0, 0);
        }
    }

    private static void refusedNone() {
        DUE.sentence("NONE: there was none");
        StateMoves x = fresh();
        for (int what = 0; what < 4; what++) {
            DUE.is("refused(" + what + "), new", x.refused(what), NONE);
        }
        x.carry(1);
        x.carry(0);
        x.rules(0, 1);
        x.dry(1);
        x.carry(1);
        for (int what = 0; what < 4; what++) {
            DUE.is("refused(" + what + "), none was REFUSED", x.refused(what), NONE);
        }
    }

    private static void refusedBad() {
        DUE.sentence("NONE: there was none; BAD.");
        int[] none = {-1, 4, 5, 256, Integer.MIN_VALUE, Integer.MAX_VALUE};
        StateMoves x = fresh();
        x.set(5, 0, 128);
        for (int what : none) {
            DUE.is("refused(" + what + ")", x.refused(what), BAD);
        }
        x.rules(0, 1);
        x.dry(1);
        for (int what : none) {
            DUE.is("refused(" + what + "), one was REFUSED", x.refused(what), BAD);
        }
    }

    private static void refusedOldKey() {
        DUE.sentence("Its old KEY");
        long[] keys = {Long.MIN_VALUE, -1, 0, 1, 1L << 32, Long.MAX_VALUE};
        for (long key : keys) {
            StateMoves x = fresh();
            x.begin(0);
            x.value(key, 1);
            Due.rules(x, 0, 1, "move a to a{key=1;n=1/0;}");
            x.dry(1);
            refused("KEY " + key, x, 4, 1, 0, 0, key, 0);
        }
    }

    private static void refusedOtherKey() {
        DUE.sentence("second: of 3, the other one; else 0");
        StateMoves x = fresh();
        x.begin(0);
        x.value(Long.MIN_VALUE, 1);
        x.value(Long.MAX_VALUE, 1);
        Due.rules(x, 0, 1, "move a to a{key=7;}");
        x.dry(1);
        refused("of 3", x, 3, NONE, NONE, 0, Long.MIN_VALUE, Long.MAX_VALUE);
        Due.rules(x, 0, 1, "move a to a{n=1/0;}");
        x.dry(1);
        refused("of another one behind it", x, 4, 1, 0, 0, Long.MIN_VALUE, 0);
    }

    private static void refusedKeyWithout() {
        DUE.sentence("else 0); 0 without.");
        StateMoves x = fresh();
        DUE.is("refusedKey(false), new", x.refusedKey(false), 0);
        DUE.is("refusedKey(true), new", x.refusedKey(true), 0);
        x.rules(0, 1);
        x.carry(1);
        DUE.is("refusedKey(false), none was REFUSED", x.refusedKey(false), 0);
        DUE.is("refusedKey(true), none was REFUSED", x.refusedKey(true), 0);
    }

    private static void lostLatest() {
        DUE.sentence("Of the latest carry() or dry() that was not REFUSED (and had RULES)");
        StateMoves x = fresh();
        x.set(5, 1, 1);
        x.value(6, 2);
        x.set(6, 0, 1);
        x.unknown(1);
        x.rules(0, 1);
        x.dry(1);
        lost("of dry()", x, 1, 1);
        x.set(5, 0, 128);
        x.dry(1);
        lost("REFUSED leaves it", x, 1, 1);
        x.dry(3);
        x.dry(0);
        x.dry(8);
        lost("STATE and BAD leave it", x, 1, 1);
        x.rules(0, 3);
        x.dry(3);
        lost("both are dropped", x, 0, 2);
        Due.rules(x, 0, 3, "drop a;drop u;");
        x.carry(3);
        lost("of carry()", x, 0, 2);
        x.begin(0);
        x.forget(0, 3);
        lost("begin() and forget() leave it", x, 0, 2);
        x.carry(1);
        lost("nothing to be LOST", x, 0, 0);
    }

    private static void lostBefore() {
        DUE.sentence("what = 0 MEMBERS that are LOST, 1 VALUES dropped; 0 before.");
        StateMoves x = fresh();
        lost("new", x, 0, 0);
        x.set(5, 0, 128);
        x.set(5, 1, 1);
        x.carry(1);
        lost("STATE", x, 0, 0);
        x.rules(0, 1);
        x.carry(1);
        lost("REFUSED", x, 0, 0);
    }

    private static void lostBad() {
        DUE.sentence("1 VALUES dropped; 0 before. BAD.");
        StateMoves x = fresh();
        int[] none = {-1, 2, 3, 256, Integer.MIN_VALUE, Integer.MAX_VALUE};
        for (int what : none) {
            DUE.is("lost(" + what + ")", x.lost(what), BAD);
        }
        x.rules(0, 1);
        x.carry(1);
        for (int what : none) {
            DUE.is("lost(" + what + "), one was carried", x.lost(what), BAD);
        }
    }

    private static void afterTheLastCall() {
        DUE.sentence("An object is used for at most 512 calls after it has been made");
        StateMoves x = new StateMoves();
        Due.type(x, 0, "a", "x:5");
        Due.type(x, 1, "a", "x:5");
        x.value(1, 0);
        x.rules(0, 1);
        x.rules(1, 0);
        int calls = 7;
        for (int i = 0; calls < 510; i++) {
            DUE.is("carry " + i, x.carry(1 - i % 2), 1);
            DUE.is("set " + i, x.set(1, 0, i), 1);
            calls += 2;
        }
        DUE.is("call 511 or 512", x.bits(1, 0, 0), (calls - 7) / 2 - 1);
    }
}
