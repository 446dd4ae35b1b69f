/** Promises 1 to 3: a new object, type, member. */
public final class ClassesTest {
    private static final Due DUE = new Due("ClassesTest");

    public static void main(String[] args) {
        newObject();
        names();
        types();
        typesInUse();
        members();
        membersInUse();
        DUE.end();
    }

    private static void newObject() {
        StateMoves x = new StateMoves();
        DUE.is("told(0)", x.told(0), 0);
        DUE.is("told(1)", x.told(1), 0);
        DUE.is("told(2)", x.told(2), 0);
        for (int what = 0; what < 4; what++) {
            DUE.is("refused(" + what + ") without one", x.refused(what), StateMoves.NONE);
        }
        DUE.is("refusedKey(false) without one", x.refusedKey(false), 0);
        DUE.is("refusedKey(true) without one", x.refusedKey(true), 0);
        DUE.is("lost(0) before", x.lost(0), 0);
        DUE.is("lost(1) before", x.lost(1), 0);
        DUE.is("key(0) without VALUES", x.key(0), 0);
        DUE.is("value without CLASSES", x.value(1, 0), StateMoves.BAD);
        for (int build = 1; build < 8; build++) {
            DUE.is("carry without RULES", x.carry(build), StateMoves.STATE);
        }
        DUE.is("UNKNOWN ones are REFUSED", x.unknown(0), 0);
    }

    private static void names() {
        StateMoves x = new StateMoves();
        long[] none = {
            0, 'A', '1', ' ', '`', '{', -1, Long.MIN_VALUE, Long.MAX_VALUE,
            Due.name("a") << 8, Due.name("a") << 56, Due.name("a") << 16 | 'b', Due.name("aB"), Due.name("Ab"),
            Due.name("abcdefg") << 8, Due.name("aaaaaaa") << 8 | 0xE1, 0x80L << 56 | Due.name("bcdefgh"),
            Due.name("key"), Due.name("move"), Due.name("drop"), Due.name("to"),
        };
        Due.type(x, 0, "first", "");
        for (long name : none) {
            DUE.is("type of no NAME " + name, x.type(0, name), StateMoves.BAD);
            DUE.is("member of no NAME " + name, x.member(0, 0, name, 4, false), StateMoves.BAD);
        }
        String[] some = {"a", "z", "zzzzzzzz", "abcdefgh", "keys"};
        for (int i = 0; i < some.length; i++) {
            DUE.is("type " + some[i], x.type(0, Due.name(some[i])), i + 1);
            DUE.is("member " + some[i], x.member(0, 0, Due.name(some[i]), 4, false), i);
        }
    }

    private static void types() {
        StateMoves x = new StateMoves();
        DUE.is("no build -1", x.type(-1, 'a'), StateMoves.BAD);
        DUE.is("no build 8", x.type(8, 'a'), StateMoves.BAD);
        DUE.is("no build of the least", x.type(Integer.MIN_VALUE, 'a'), StateMoves.BAD);
        for (int build = 0; build < 8; build++) {
            for (int i = 0; i < 6; i++) {
                DUE.is("class " + i + " of " + build, x.type(build, 'a' + i), i);
                DUE.is("the same once more", x.type(build, 'a' + i), StateMoves.BAD);
            }
            DUE.is("a seventh", x.type(build, 'g'), StateMoves.FULL);
            DUE.is("one that is there, in a full one", x.type(build, 'a'), StateMoves.BAD);
        }
        x.rules(0, 1);
        DUE.is("FULL ahead of STATE", x.type(0, 'g'), StateMoves.FULL);
    }

    private static void typesInUse() {
        StateMoves x = new StateMoves();
        Due.type(x, 0, "a", "");
        x.rules(2, 3);
        DUE.is("RULES from it", x.type(2, 'b'), StateMoves.STATE);
        DUE.is("RULES to it", x.type(3, 'b'), StateMoves.STATE);
        DUE.is("BAD ahead of STATE", x.type(2, 0), StateMoves.BAD);
        DUE.is("another one", x.type(1, 'b'), 0);
        x.forget(2, 3);
        DUE.is("RULES forgotten", x.type(2, 'b'), 0);
        DUE.is("THE STATE is of it, without VALUES", x.type(0, 'b'), 1);
        x.value(1, 0);
        DUE.is("THE STATE has VALUES", x.type(0, 'c'), StateMoves.STATE);
        DUE.is("that is of another BUILD", x.type(1, 'c'), 1);
        x.begin(0);
        DUE.is("it has none any more", x.type(0, 'c'), 2);
    }

    private static void members() {
        StateMoves x = new StateMoves();
        Due.type(x, 7, "a", "");
        Due.type(x, 7, "b", "");
        DUE.is("no build", x.member(8, 0, 'x', 4, false), StateMoves.BAD);
        DUE.is("no build", x.member(-1, 0, 'x', 4, false), StateMoves.BAD);
        DUE.is("no class", x.member(7, 2, 'x', 4, false), StateMoves.BAD);
        DUE.is("no class", x.member(7, -1, 'x', 4, false), StateMoves.BAD);
        DUE.is("no class there", x.member(6, 0, 'x', 4, false), StateMoves.BAD);
        DUE.is("no type", x.member(7, 0, 'x', 8, false), StateMoves.BAD);
        DUE.is("no type", x.member(7, 0, 'x', -1, false), StateMoves.BAD);
        for (int i = 0; i < 8; i++) {
            DUE.is("member " + i, x.member(7, 0, 'a' + i, i, i % 2 == 0), i);
            DUE.is("the same once more", x.member(7, 0, 'a' + i, 4, false), StateMoves.BAD);
        }
        DUE.is("a ninth", x.member(7, 0, 'x', 4, false), StateMoves.FULL);
        DUE.is("BAD ahead of FULL", x.member(7, 0, 'x', 8, false), StateMoves.BAD);
        DUE.is("in another CLASS", x.member(7, 1, 'a', 4, true), 0);
        x.rules(0, 7);
        DUE.is("FULL ahead of STATE", x.member(7, 0, 'x', 4, false), StateMoves.FULL);
    }

    private static void membersInUse() {
        StateMoves x = new StateMoves();
        Due.type(x, 0, "a", "");
        Due.type(x, 1, "a", "");
        x.rules(1, 0);
        DUE.is("RULES to it", x.member(0, 0, 'x', 4, false), StateMoves.STATE);
        DUE.is("RULES from it", x.member(1, 0, 'x', 4, false), StateMoves.STATE);
        DUE.is("BAD ahead of STATE", x.member(1, 1, 'x', 4, false), StateMoves.BAD);
        x.forget(1, 0);
        x.value(5, 0);
        DUE.is("THE STATE has VALUES", x.member(0, 0, 'x', 4, false), StateMoves.STATE);
        DUE.is("in another BUILD", x.member(1, 0, 'x', 4, false), 0);
        x.begin(1);
        DUE.is("THE STATE is of another one", x.member(0, 0, 'x', 4, false), 0);
    }
}
