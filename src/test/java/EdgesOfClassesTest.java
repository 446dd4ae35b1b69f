/** BUILDS, CLASSES, MEMBERS and NAMES, and promises 1 to 3: each sentence that names an edge. */
public final class EdgesOfClassesTest {
    private static final Due DUE = new Due("EdgesOfClassesTest");
    private static final int BAD = StateMoves.BAD, FULL = StateMoves.FULL, STATE = StateMoves.STATE;
    private static final int[] NO_BUILDS = {-1, 8, 9, -8, 256, 1 << 16, Integer.MIN_VALUE, Integer.MAX_VALUE};
    private static final int[] NO_LETTERS = {'`', '{', 'A', 'Z', '0', ' ', 1, 0x7F, 0x80, 0xE1, 0xFF};

    public static void main(String[] args) {
        buildsTooSmallAndTooLarge();
        sixClasses();
        eightMembers();
        allThereMayBe();
        lettersOfNames();
        lengthsOfNames();
        zerosInNames();
        differentClassNames();
        differentMemberNames();
        wordsAreNoNames();
        newObject();
        newObjectsAlone();
        typeBad();
        typeFull();
        typeWithRules();
        typeWithValues();
        typeRefusedChangesNothing();
        memberBad();
        memberFull();
        memberState();
        memberRefusedChangesNothing();
        DUE.end();
    }

    private static long name(String name) {
        return Due.name(name);
    }

    private static void buildsTooSmallAndTooLarge() {
        // The document's sentence is cut here: it goes on with "7 have CLASSES".
        DUE.sentence("1 BUILDS 0 ..");
        StateMoves x = new StateMoves();
        for (int build = 0; build <= 7; build++) {
            DUE.is("type of " + build, x.type(build, name("a")), 0);
            DUE.is("member of " + build, x.member(build, 0, name("x"), 4, false), 0);
            DUE.is("begin(" + build + ")", x.begin(build), 0);
            DUE.is("THE STATE's BUILD", x.told(0), build);
        }
        x.begin(3);
        for (int build = 0; build <= 7; build++) {
            DUE.is("rules(3, " + build + ")", x.rules(3, build), build == 3 ? BAD : 0);
            DUE.is("dry(" + build + ")", x.dry(build), build == 3 ? BAD : 0);
        }
        for (int build : NO_BUILDS) {
            DUE.is("type of " + build, x.type(build, name("b")), BAD);
            DUE.is("member of " + build, x.member(build, 0, name("y"), 4, false), BAD);
            DUE.is("begin(" + build + ")", x.begin(build), BAD);
            DUE.is("rules(" + build + ", 3)", x.rules(build, 3), BAD);
            DUE.is("rules(3, " + build + ")", x.rules(3, build), BAD);
            DUE.is("carry(" + build + ")", x.carry(build), BAD);
            DUE.is("dry(" + build + ")", x.dry(build), BAD);
            DUE.is("forget(" + build + ", 3)", x.forget(build, 3) ? 1 : 0, 0);
            DUE.is("forget(3, " + build + ")", x.forget(3, build) ? 1 : 0, 0);
        }
        DUE.is("all RULES are there", x.told(2), 7);
        DUE.is("the same BUILD", x.told(0), 3);
    }

    private static void sixClasses() {
        DUE.sentence("7 have CLASSES (6 at most, numbers 0, 1, .. as they came)");
        StateMoves x = new StateMoves();
        for (int build = 7; build >= 0; build--) {
            for (int i = 0; i < 6; i++) {
                DUE.is("CLASS " + i + " of " + build, x.type(build, name("f") - i), i);
            }
            DUE.is("a seventh of " + build, x.type(build, name("g")), FULL);
            x.begin(build);
            DUE.is("a VALUE of the last", x.value(1, 5), 1);
            DUE.is("no VALUE of the seventh", x.value(2, 6), BAD);
            DUE.is("no MEMBER of the seventh", x.member(build, 6, name("x"), 4, false), BAD);
            DUE.is("its number", x.classOf(1), 5);
        }
    }

    private static void eightMembers() {
        DUE.sentence("and MEMBERS (8 at most, likewise) with a NAME, a TYPE, and perhaps in ARRAYS");
        StateMoves x = new StateMoves();
        x.type(0, name("a"));
        for (int i = 0; i < 8; i++) {
            DUE.is("MEMBER " + i, x.member(0, 0, name("h") - i, i, i % 2 == 1), i);
        }
        DUE.is("a ninth", x.member(0, 0, name("i"), 4, false), FULL);
        DUE.is("a ninth in ARRAYS", x.member(0, 0, name("i"), 4, true), FULL);
        x.value(1, 0);
        for (int i = 0; i < 8; i++) {
            DUE.is("how many of " + i, x.many(1, i), i % 2 == 1 ? 0 : 1);
        }
        DUE.is("the last", x.add(1, 7, 5), 1);
        DUE.is("none is the ninth", x.many(1, 8), BAD);
        DUE.is("none to set", x.set(1, 8, 0), BAD);
        DUE.is("none to add to", x.add(1, 8, 0), BAD);
    }

    private static void allThereMayBe() {
        StateMoves x = new StateMoves();
        for (int build = 0; build < 8; build++) {
            for (int cls = 0; cls < 6; cls++) {
                DUE.is("CLASS", x.type(build, name("a") + cls), cls);
                for (int member = 0; member < 8; member++) {
                    DUE.is("MEMBER", x.member(build, cls, name("a") + member, 5, false), member);
                }
            }
        }
        DUE.is("a CLASS more", x.type(7, name("z")), FULL);
        DUE.is("a MEMBER more", x.member(7, 5, name("z"), 5, false), FULL);
    }

    private static void lettersOfNames() {
        DUE.sentence("A NAME is 1 to 8 letters a .. z, told as a long by its bytes, the first letter the highest");
        for (int place = 0; place < 8; place++) {
            StateMoves x = new StateMoves();
            x.type(0, name("home"));
            for (int sign : NO_LETTERS) {
                long told = name("azazazaz") & ~(0xFFL << 8 * place) | (long) sign << 8 * place;
                DUE.is("type with " + sign + " at " + place, x.type(0, told), BAD);
                DUE.is("member with " + sign + " at " + place, x.member(0, 0, told, 4, false), BAD);
            }
            DUE.is("a at it", x.type(0, name("mmmmmmmm") & ~(0xFFL << 8 * place) | (long) 'a' << 8 * place), 1);
            DUE.is("z at it", x.type(0, name("mmmmmmmm") & ~(0xFFL << 8 * place) | (long) 'z' << 8 * place), 2);
        }
        StateMoves x = new StateMoves();
        Due.type(x, 0, "ab", "");
        Due.type(x, 1, "ab", "");
        DUE.is("the first letter is the highest", Due.rules(x, 0, 1, "drop ab;"), 1);
        DUE.is("not the lowest", Due.rules(x, 0, 1, "drop ba;"), -10 - 5);
    }

    private static void lengthsOfNames() {
        DUE.sentence("A NAME is 1 to 8 letters a .. z");
        StateMoves x = new StateMoves();
        x.type(0, name("home"));
        DUE.is("type of none", x.type(0, 0), BAD);
        DUE.is("member of none", x.member(0, 0, 0, 4, false), BAD);
        for (int length = 1; length <= 8; length++) {
            DUE.is("type of " + length, x.type(length % 2 + 1, name("z".repeat(length))), (length - 1) / 2);
            DUE.is("member of " + length, x.member(0, 0, name("z".repeat(length)), 4, false), length - 1);
        }
    }

    private static void zerosInNames() {
        DUE.sentence("no byte 0 between or behind");
        StateMoves x = new StateMoves();
        x.type(0, name("home"));
        for (int length = 1; length < 8; length++) {
            for (int behind = 1; behind + length <= 8; behind++) {
                long told = name("a".repeat(length)) << 8 * behind;
                DUE.is(length + " letters, " + behind + " behind", x.type(0, told), BAD);
                DUE.is(length + " letters, " + behind + " behind", x.member(0, 0, told, 4, false), BAD);
            }
        }
        for (int between = 1; between < 7; between++) {
            long told = name("aaaaaaaa") & ~(0xFFL << 8 * between);
            DUE.is("type with one at " + between, x.type(0, told), BAD);
            DUE.is("member with one at " + between, x.member(0, 0, told, 4, false), BAD);
        }
        DUE.is("ahead they may be", x.type(0, name("aaaaaaa")), 1);
    }

    private static void differentClassNames() {
        DUE.sentence("in a BUILD all NAMES of CLASSES are different");
        StateMoves x = new StateMoves();
        String[] names = {"a", "aa", "aaaaaaa", "aaaaaaaa", "ab", "b"};
        for (int i = 0; i < names.length; i++) {
            DUE.is("type " + names[i], x.type(0, name(names[i])), i);
            for (int j = 0; j <= i; j++) {
                DUE.is("once more " + names[j], x.type(0, name(names[j])), BAD);
            }
            DUE.is("in another BUILD", x.type(1, name(names[i])), i);
        }
    }

    private static void differentMemberNames() {
        DUE.sentence("in a CLASS all of MEMBERS");
        StateMoves x = new StateMoves();
        x.type(0, name("a"));
        x.type(0, name("b"));
        String[] names = {"a", "b", "aa", "aaaaaaaa", "ab", "ba", "c", "d"};
        for (int i = 0; i < names.length; i++) {
            DUE.is("member " + names[i], x.member(0, 0, name(names[i]), 4, false), i);
            for (int j = 0; j <= i; j++) {
                DUE.is("once more " + names[j], x.member(0, 0, name(names[j]), 5, true), BAD);
            }
            DUE.is("in another CLASS", x.member(0, 1, name(names[i]), 4, true), i);
        }
    }

    private static void wordsAreNoNames() {
        DUE.sentence("key, move, drop, to are none");
        String[] words = {"key", "move", "drop", "to"};
        String[][] near = {{"ke", "keyy", "yek"}, {"mov", "moves", "amove"}, {"dro", "drops", "adrop"}, {"t", "too", "ot"}};
        for (int i = 0; i < words.length; i++) {
            StateMoves x = new StateMoves();
            x.type(0, name("home"));
            DUE.is("type " + words[i], x.type(0, name(words[i])), BAD);
            DUE.is("member " + words[i], x.member(0, 0, name(words[i]), 4, false), BAD);
            for (int j = 0; j < near[i].length; j++) {
                DUE.is("type " + near[i][j], x.type(0, name(near[i][j])), j + 1);
                DUE.is("member " + near[i][j], x.member(0, 0, name(near[i][j]), 4, false), j);
            }
        }
    }

    private static void newObject() {
        DUE.sentence("No CLASSES, no RULES; THE STATE is of BUILD 0, without VALUES; UNKNOWN ones are REFUSED.");
        StateMoves x = new StateMoves();
        DUE.is("BUILD 0", x.told(0), 0);
        DUE.is("no VALUES", x.told(1), 0);
        DUE.is("no RULES", x.told(2), 0);
        DUE.is("no KEY", x.key(0), 0);
        DUE.is("no VALUE", x.classOf(0), StateMoves.NONE);
        DUE.is("no VALUE", x.many(0, 0), BAD);
        DUE.is("no VALUE", x.bits(0, 0, 0), 0);
        DUE.is("THE TEXT is empty", x.feed(0, 0, 1), 1);
        DUE.is("carry to its BUILD", x.carry(0), BAD);
        for (int build = 0; build < 8; build++) {
            DUE.is("no CLASSES in " + build, x.member(build, 0, name("x"), 4, false), BAD);
            DUE.is("begin", x.begin(build), 0);
            DUE.is("no VALUES of CLASSES", x.value(0, 0), BAD);
            for (int to = 0; to < 8; to++) {
                DUE.is("no RULES", x.forget(build, to) ? 1 : 0, 0);
                DUE.is("no RULES", x.carry(to), to == build ? BAD : STATE);
            }
        }
        DUE.is("UNKNOWN ones are REFUSED", x.unknown(0), 0);
    }

    private static void newObjectsAlone() {
        DUE.sentence("No CLASSES, no RULES; THE STATE is of BUILD 0, without VALUES; UNKNOWN ones are REFUSED.");
        StateMoves used = new StateMoves();
        Due.type(used, 0, "a", "x:4");
        used.value(1, 0);
        used.rules(0, 1);
        used.unknown(1);
        used.carry(1);
        used.feed(0, 0, 16);
        StateMoves x = new StateMoves();
        DUE.is("BUILD 0", x.told(0), 0);
        DUE.is("no RULES of another object", x.told(2), 0);
        DUE.is("THE TEXT is empty", x.feed(-1L, 0, 1), 1);
        DUE.is("no CLASSES of another object", x.type(0, name("a")), 0);
        DUE.is("nothing LOST", x.lost(1), 0);
        x.value(1, 0);
        DUE.is("the text is its own", x.rules(0, 1), -10);
        DUE.is("an empty one", x.rules(0, 1), 0);
        DUE.is("UNKNOWN is REFUSED", x.carry(1), StateMoves.NONE);
        DUE.is("why", x.refused(0), 6);
        DUE.is("the other object's", used.refused(0), StateMoves.NONE);
    }

    private static void typeBad() {
        DUE.sentence("A CLASS comes to a BUILD: its number. BAD: build, no NAME, or one that is there");
        StateMoves x = new StateMoves();
        DUE.is("build -1", x.type(-1, name("a")), BAD);
        DUE.is("build 8", x.type(8, name("a")), BAD);
        DUE.is("no NAME", x.type(0, name("A")), BAD);
        DUE.is("the first", x.type(0, name("a")), 0);
        DUE.is("one that is there", x.type(0, name("a")), BAD);
        DUE.is("the second", x.type(0, name("b")), 1);
        x.rules(0, 1);
        DUE.is("BAD ahead of STATE: NAME", x.type(0, 0), BAD);
        DUE.is("BAD ahead of STATE: it is there", x.type(0, name("b")), BAD);
    }

    private static void typeFull() {
        DUE.sentence("or one that is there; FULL; STATE");
        StateMoves x = new StateMoves();
        for (int i = 0; i < 6; i++) {
            x.type(0, name("a") + i);
        }
        DUE.is("FULL", x.type(0, name("x")), FULL);
        DUE.is("BAD ahead of FULL: NAME", x.type(0, name("key")), BAD);
        DUE.is("BAD ahead of FULL: it is there", x.type(0, name("f")), BAD);
        x.value(1, 0);
        DUE.is("FULL ahead of STATE: VALUES", x.type(0, name("x")), FULL);
        x.begin(0);
        x.rules(1, 0);
        DUE.is("FULL ahead of STATE: RULES", x.type(0, name("x")), FULL);
        DUE.is("another BUILD is not FULL", x.type(2, name("x")), 0);
    }

    private static void typeWithRules() {
        DUE.sentence("STATE: there are RULES from or to the BUILD, or THE STATE is of it and has VALUES");
        for (int from = 0; from < 8; from++) {
            for (int to = 0; to < 8; to++) {
                if (from != to) {
                    StateMoves x = new StateMoves();
                    x.rules(from, to);
                    for (int build = 0; build < 8; build++) {
                        boolean isOf = build == from || build == to;
                        DUE.is("type of " + build + ", RULES " + from + " to " + to, x.type(build, 'a'), isOf ? STATE : 0);
                    }
                    x.forget(from, to);
                    DUE.is("from, forgotten", x.type(from, 'a'), 0);
                    DUE.is("to, forgotten", x.type(to, 'a'), 0);
                }
            }
        }
        StateMoves x = new StateMoves();
        x.rules(0, 1);
        x.rules(1, 0);
        x.forget(0, 1);
        DUE.is("those back are there still", x.type(0, 'a'), STATE);
        Due.rules(x, 2, 3, "!");
        DUE.is("a WRONG text is no RULES", x.type(2, 'a'), 0);
        x.rules(4, 4);
        DUE.is("BAD ones are no RULES", x.type(4, 'a'), 0);
    }

    private static void typeWithValues() {
        DUE.sentence("or THE STATE is of it and has VALUES");
        for (int build = 0; build < 8; build++) {
            StateMoves x = new StateMoves();
            x.type(build, 'a');
            x.begin(build);
            DUE.is("without VALUES", x.type(build, 'b'), 1);
            x.value(1, 0);
            DUE.is("with one", x.type(build, 'c'), STATE);
            DUE.is("another BUILD", x.type((build + 1) % 8, 'c'), 0);
            x.begin((build + 1) % 8);
            DUE.is("THE STATE is of another one", x.type(build, 'c'), 2);
        }
        StateMoves x = new StateMoves();
        x.type(0, 'a');
        x.type(1, 'a');
        x.value(1, 0);
        x.rules(0, 1);
        x.carry(1);
        x.forget(0, 1);
        DUE.is("carried away", x.type(0, 'b'), 1);
        DUE.is("carried there", x.type(1, 'b'), STATE);
    }

    private static void typeRefusedChangesNothing() {
        DUE.sentence("STATE: there are RULES from or to the BUILD, or THE STATE is of it and has VALUES");
        StateMoves x = new StateMoves();
        x.rules(0, 1);
        DUE.is("STATE", x.type(0, 'a'), STATE);
        x.forget(0, 1);
        DUE.is("it did not come", x.type(0, 'b'), 0);
        DUE.is("its NAME is free", x.type(0, 'a'), 1);
        x.type(0, name("no") << 8);
        DUE.is("BAD ones take no number", x.type(0, 'c'), 2);
    }

    private static void memberBad() {
        DUE.sentence("A MEMBER comes to a CLASS: its number. BAD: build, class, no NAME or one that is there, type");
        StateMoves x = new StateMoves();
        x.type(7, 'a');
        x.type(7, 'b');
        x.type(6, 'a');
        int[] noClasses = {-1, 2, 5, 6, 7, 8, Integer.MIN_VALUE, Integer.MAX_VALUE};
        for (int cls : noClasses) {
            DUE.is("class " + cls, x.member(7, cls, 'x', 4, false), BAD);
        }
        DUE.is("a class of another BUILD", x.member(6, 1, 'x', 4, false), BAD);
        int[] noTypes = {-1, 8, 9, 256, Integer.MIN_VALUE, Integer.MAX_VALUE};
        for (int type : noTypes) {
            DUE.is("type " + type, x.member(7, 0, 'x', type, false), BAD);
            DUE.is("type " + type + " in ARRAYS", x.member(7, 0, 'x', type, true), BAD);
        }
        DUE.is("build 8", x.member(8, 0, 'x', 4, false), BAD);
        DUE.is("build -1", x.member(-1, 0, 'x', 4, false), BAD);
        DUE.is("no NAME", x.member(7, 0, 0, 4, false), BAD);
        for (int type = 0; type < 8; type++) {
            DUE.is("TYPE " + type, x.member(7, 1, 'a' + type, type, true), type);
        }
        DUE.is("the first", x.member(7, 0, 'x', 0, false), 0);
        DUE.is("one that is there", x.member(7, 0, 'x', 4, true), BAD);
        DUE.is("the second", x.member(7, 0, 'y', 7, true), 1);
    }

    private static void memberFull() {
        DUE.sentence("no NAME or one that is there, type; FULL; STATE: likewise.");
        StateMoves x = new StateMoves();
        Due.type(x, 0, "a", "a:4 b:4 c:4 d:4 e:4 f:4 g:4 h:4");
        Due.type(x, 0, "b", "a:4 b:4 c:4 d:4 e:4 f:4 g:4");
        DUE.is("FULL", x.member(0, 0, 'x', 4, false), FULL);
        DUE.is("BAD ahead of FULL: type", x.member(0, 0, 'x', 8, false), BAD);
        DUE.is("BAD ahead of FULL: NAME", x.member(0, 0, '1', 4, false), BAD);
        DUE.is("BAD ahead of FULL: it is there", x.member(0, 0, 'h', 4, false), BAD);
        x.value(1, 0);
        DUE.is("FULL ahead of STATE: VALUES", x.member(0, 0, 'x', 4, false), FULL);
        DUE.is("STATE in one that is not FULL", x.member(0, 1, 'x', 4, false), STATE);
        x.begin(1);
        x.rules(0, 7);
        DUE.is("FULL ahead of STATE: RULES", x.member(0, 0, 'x', 4, false), FULL);
        x.forget(0, 7);
        DUE.is("the other CLASS is not FULL", x.member(0, 1, 'x', 4, false), 7);
        DUE.is("now it is", x.member(0, 1, 'y', 4, false), FULL);
    }

    private static void memberState() {
        DUE.sentence("FULL; STATE: likewise.");
        for (int from = 0; from < 8; from++) {
            for (int to = 0; to < 8; to++) {
                if (from != to) {
                    StateMoves x = new StateMoves();
                    for (int build = 0; build < 8; build++) {
                        x.type(build, 'a');
                    }
                    x.rules(from, to);
                    for (int build = 0; build < 8; build++) {
                        boolean isOf = build == from || build == to;
                        DUE.is("member of " + build + ", RULES " + from + " to " + to,
                                x.member(build, 0, 'x', 4, false), isOf ? STATE : 0);
                    }
                    x.forget(from, to);
                    DUE.is("from, forgotten", x.member(from, 0, 'x', 4, false), 0);
                    DUE.is("to, forgotten", x.member(to, 0, 'x', 4, false), 0);
                }
            }
        }
        StateMoves x = new StateMoves();
        x.type(0, 'a');
        x.type(0, 'b');
        x.value(1, 0);
        DUE.is("VALUES of it", x.member(0, 0, 'x', 4, false), STATE);
        DUE.is("VALUES of another CLASS", x.member(0, 1, 'x', 4, false), STATE);
        DUE.is("BAD ahead of STATE: class", x.member(0, 2, 'x', 4, false), BAD);
        DUE.is("BAD ahead of STATE: type", x.member(0, 0, 'x', -1, false), BAD);
        x.begin(0);
        DUE.is("no VALUES", x.member(0, 0, 'x', 4, false), 0);
    }

    private static void memberRefusedChangesNothing() {
        DUE.sentence("FULL; STATE: likewise.");
        StateMoves x = new StateMoves();
        x.type(0, 'a');
        x.value(1, 0);
        DUE.is("STATE", x.member(0, 0, 'x', 4, false), STATE);
        DUE.is("it did not come", x.many(1, 0), BAD);
        x.begin(0);
        x.member(0, 0, 'q', 8, false);
        DUE.is("BAD ones take no number", x.member(0, 0, 'y', 5, false), 0);
        DUE.is("its NAME is free", x.member(0, 0, 'x', 5, true), 1);
    }
}
