/** Promises 8 to 10: feed, rules (and where a text is WRONG), forget. */
public final class TextTest {
    private static final Due DUE = new Due("TextTest");

    public static void main(String[] args) {
        feeds();
        feedsBytes();
        counts();
        badBuilds();
        usedUpText();
        pieces();
        grammar();
        places();
        longest();
        nesting();
        classNames();
        memberNames();
        kindsInWork();
        justNames();
        piecesComeFirst();
        keepsAndForgets();
        DUE.end();
    }

    /** BUILD 0: a and b, BUILD 1: a and c; x INT, l LONG, r INT in ARRAYS, f FLOAT, d DOUBLE, g FLOAT in ARRAYS. */
    private static StateMoves fresh() {
        StateMoves x = new StateMoves();
        Due.type(x, 0, "a", "x:4 l:5 r:4[] f:6 d:7 g:6[] t:0 dd:7[]");
        Due.type(x, 0, "b", "y:4 s:4[]");
        Due.type(x, 1, "a", "x:4 l:5 r:4[] f:6 d:7 g:6[] n:4 q:5[]");
        Due.type(x, 1, "c", "z:4");
        return x;
    }

    private static void right(String text, int moves) {
        DUE.is("«" + text + "»", Due.rules(fresh(), 0, 1, text), moves);
    }

    private static void wrong(String text, int place) {
        DUE.is("«" + text + "»", Due.rules(fresh(), 0, 1, text), -10 - place);
    }

    /** A RULE of the MOVE of a, WRONG at a place counted from its own begin. */
    private static void wrongRule(String rule, int place) {
        String head = "move a to a{";
        wrong(head + rule + "}", head.length() + place);
    }

    private static void rightRule(String rule) {
        right("move a to a{" + rule + "}", 1);
    }

    private static void feeds() {
        StateMoves x = fresh();
        DUE.is("n 0", x.feed(0, 0, 0), StateMoves.BAD);
        DUE.is("n 17", x.feed(0, 0, 17), StateMoves.BAD);
        DUE.is("n -1", x.feed(0, 0, -1), StateMoves.BAD);
        DUE.is("n of the least", x.feed(0, 0, Integer.MIN_VALUE), StateMoves.BAD);
        DUE.is("n of the greatest", x.feed(0, 0, Integer.MAX_VALUE), StateMoves.BAD);
        int have = 0;
        for (int i = 0; i < 43; i++) {
            have += 16;
            DUE.is("sixteen more", x.feed(0x2020202020202020L, 0x2020202020202020L, 16), have);
        }
        DUE.is("13 more than 688", x.feed(0, 0, 13), StateMoves.FULL);
        DUE.is("11 more", x.feed(0x2020202020202020L, 0x2020200000000000L, 11), 699);
        DUE.is("two more", x.feed(0, 0, 2), StateMoves.FULL);
        DUE.is("BAD ahead of FULL", x.feed(0, 0, 17), StateMoves.BAD);
        DUE.is("one more", x.feed(0x2100000000000000L, 0, 1), 700);
        DUE.is("one more than 700", x.feed(0, 0, 1), StateMoves.FULL);
        DUE.is("WRONG at the last one", x.rules(0, 1), -10 - 699);
        DUE.is("empty then", x.feed(0, 0, 1), 1);
    }

    private static void feedsBytes() {
        StateMoves x = fresh();
        x.feed(Due.half("drop a;!", 0), Due.half("????????", 0), 7);
        DUE.is("the first n of them", x.rules(0, 1), 1);
        x.feed(Due.half("        ", 0), Due.half("drop a;!", 0), 15);
        DUE.is("of b too", x.rules(0, 1), 1);
        x.feed(Due.half("        ", 0), Due.half("drop a;!", 0), 16);
        DUE.is("all of them", x.rules(0, 1), -10 - 15);
        x.feed(Due.half("   ", 0), 0, 1);
        x.feed(Due.half("drop", 0), 0, 4);
        x.feed(Due.half(" b", 0), 0, 2);
        x.feed(Due.half(";", 0), 0, 1);
        DUE.is("piece by piece", x.rules(0, 1), 1);
    }

    private static void counts() {
        right("", 0);
        right("   \n \n", 0);
        right("move a to a{}", 1);
        right("move a to c{}move b to c{}", 2);
        right("drop a;drop b;", 2);
        right("move b to a {\n}\ndrop a ;\n", 2);
    }

    private static void badBuilds() {
        int[][] pairs = {{0, 0}, {7, 7}, {8, 0}, {0, 8}, {-1, 0}, {0, -1}, {9, 9}, {Integer.MIN_VALUE, Integer.MAX_VALUE}};
        for (int[] pair : pairs) {
            StateMoves x = fresh();
            String call = "rules(" + pair[0] + ", " + pair[1] + ")";
            Due.feed(x, "drop a;");
            DUE.is("RULES that there are", x.rules(0, 1), 1);
            DUE.is(call + " of no text", x.rules(pair[0], pair[1]), StateMoves.BAD);
            Due.feed(x, "drop b;drop a;");
            DUE.is(call, x.rules(pair[0], pair[1]), StateMoves.BAD);
            DUE.is("THE TEXT is empty behind " + call, x.feed(Due.half(" ", 0), 0, 1), 1);
            DUE.is("no RULES came", x.told(2), 1);
            DUE.is("nothing is left of it behind " + call, x.rules(0, 1), 0);
        }
    }

    // A text that was used up leaves room for the longest one, and nothing of it stands behind a shorter one.
    private static void usedUpText() {
        StateMoves x = fresh();
        for (int i = 0; i < 43; i++) {
            x.feed(-1L, -1L, 16);
        }
        x.feed(-1L, -1L, 12);
        DUE.is("700 are there", x.feed(0, 0, 1), StateMoves.FULL);
        DUE.is("of one BUILD", x.rules(3, 3), StateMoves.BAD);
        Due.feed(x, "drop a;");
        DUE.is("the text behind it alone", x.rules(0, 1), 1);
        Due.feed(x, "drop a;drop");
        DUE.is("WRONG", x.rules(0, 1), -10 - 11);
        DUE.is("RULES stay", x.told(2), 1);
        DUE.is("empty behind a WRONG one", x.feed(0, 0, 1), 1);
        DUE.is("BAD feed() changes nothing", x.feed(0, 0, 0), StateMoves.BAD);
        DUE.is("forget() leaves THE TEXT", x.forget(0, 1) ? 1 : 0, 1);
        DUE.is("it is still there", x.feed(0, 0, 1), 2);
    }

    private static void pieces() {
        rightRule("x=0;");
        rightRule("x=2147483647;");
        rightRule("x=0000000000000000000000000000002147483647;");
        wrongRule("x=2147483648;", 2);
        wrongRule("x=1+99999999999999999999999999999999;", 4);
        wrongRule("x=1a;", 3);
        wrongRule("x=l2;", 3);
        wrongRule("x=abcdefghi;", 2);
        wrongRule("x=abcdefgh;", 2);
        wrong("moves a to a{}", 0);
        wrong("movea to a{}", 0);
        wrong("move a toa{}", 7);
        wrong("move abcdefghi to a{}", 5);
        right("move\na\nto\na{x\n=\nl\n;}", 1);
        wrong("move\ta to a{}", 4);
        wrong("move a\r to a{}", 6);
        wrong("move a to a{}\0", 13);
        wrong("Move a to a{}", 0);
        wrong("move A to a{}", 5);
        wrong("move a to a{x=1,}", 15);
        wrong("move a to a{x=\u00e1;}", 14);
        wrong("move a to a{x=x\u00ff;}", 15);
        wrong("  !", 2);
        rightRule("x=x-#r*(l%2)/r[-1]+key;");
        rightRule("x=- - -(x);");
    }

    private static void grammar() {
        wrong("a", 0);
        wrong("key", 0);
        wrong("to", 0);
        wrong("5", 0);
        wrong("}", 0);
        wrong(";", 0);
        wrong("move key to a{}", 5);
        wrong("move move to a{}", 5);
        wrong("move a a{}", 7);
        wrong("move a to to{}", 10);
        wrong("move a to a;", 11);
        wrong("move a to a{};", 13);
        wrong("drop key;", 5);
        wrong("drop a}", 6);
        wrong("drop a drop b;", 7);
        wrongRule("move", 0);
        wrongRule("to=1;", 0);
        wrongRule("1=1;", 0);
        wrongRule(";", 0);
        wrongRule("{}", 0);
        wrongRule("x;", 1);
        wrongRule("key;", 3);
        wrongRule("drop key;", 5);
        wrongRule("drop x=1;", 6);
        wrongRule("x=;", 2);
        wrongRule("x=drop;", 2);
        wrongRule("x=to;", 2);
        wrongRule("x=1}", 3);
        wrongRule("x=1 2;", 4);
        wrongRule("x=(1;", 4);
        wrongRule("x=();", 3);
        wrongRule("x=1);", 3);
        wrongRule("x=r[];", 4);
        wrongRule("x=r[1;", 5);
        wrongRule("x=r[1);", 5);
        wrongRule("x=1[0];", 3);
        wrongRule("x=key[0];", 5);
        wrongRule("x=#5;", 3);
        wrongRule("x=#key;", 3);
        wrongRule("x=#(r);", 3);
        wrongRule("x=#r[0];", 4);
        wrongRule("x=+1;", 2);
        wrongRule("x=1+;", 4);
        wrongRule("x=1*/2;", 4);
        wrongRule("x=1 = 1;", 4);
        wrongRule("key=key key;", 8);
    }

    private static void places() {
        wrong("move", 4);
        wrong("move   ", 7);
        wrong("move a", 6);
        wrong("move a to", 9);
        wrong("move a to a", 11);
        wrong("move a to a{", 12);
        wrong("move a to a{ \n ", 15);
        wrong("move a to a{x", 13);
        wrong("move a to a{x=", 14);
        wrong("move a to a{x=1", 15);
        wrong("move a to a{x=1;", 16);
        wrong("move a to a{x=r", 15);
        wrong("move a to a{x=r[", 16);
        wrong("move a to a{x=#", 15);
        wrong("move a to a{x=-", 15);
        wrong("move a to a{x=(1 ", 17);
        wrong("move a to a{drop", 16);
        wrong("move a to a{drop x", 18);
        wrong("drop", 4);
        wrong("drop a", 6);
        wrong("drop a; move", 12);
    }

    private static void longest() {
        wrong(";".repeat(700), 0);
        wrong("move a to a{" + " ".repeat(688), 700);
        wrong("move a to a{x=" + "1+".repeat(343), 700);
        wrong("move a to a{x=1" + " ".repeat(685), 700);
        String sum = "move a to a{x=" + "1+".repeat(341) + "1;}";
        right(sum + " ", 1);
        StateMoves x = fresh();
        x.value(5, 0);
        Due.rules(x, 0, 1, sum);
        DUE.is("carry", x.carry(1), 1);
        DUE.is("342 of 1", x.bits(5, 0, 0), 342);
        Due.type(x, 2, "abcdefgh", "zyxwvuts:4");
        Due.type(x, 3, "hgfedcba", "stuvwxyz:4");
        DUE.is("NAMES of eight letters",
                Due.rules(x, 2, 3, "move abcdefgh to hgfedcba{stuvwxyz=-zyxwvuts;drop zyxwvuts;}"), 1);
    }

    private static void nesting() {
        rightRule("x=" + "(".repeat(20) + "1" + ")".repeat(20) + ";");
        wrongRule("x=" + "(".repeat(21) + "1" + ")".repeat(21) + ";", 22);
        rightRule("x=" + "-".repeat(20) + "1;");
        wrongRule("x=" + "-".repeat(21) + "1;", 22);
        rightRule("x=1" + "-".repeat(21) + "1;");
        wrongRule("x=1" + "-".repeat(22) + "1;", 24);
        rightRule("x=" + "r[".repeat(20) + "0" + "]".repeat(20) + ";");
        wrongRule("x=" + "r[".repeat(21) + "0" + "]".repeat(21) + ";", 2 + 41);
        rightRule("x=" + "-(r[".repeat(6) + "-(l)" + "])".repeat(6) + ";");
        wrongRule("x=" + "-(r[".repeat(6) + "-(-l)" + "])".repeat(6) + ";", 2 + 24 + 2);
        wrongRule("x=" + "-(r[".repeat(6) + "-(r[0])" + "])".repeat(6) + ";", 2 + 24 + 3);
        rightRule("x=" + "-(r[".repeat(6) + "-r[0]" + "])".repeat(6) + "-" + "-".repeat(20) + "1;");
        wrongRule("x=" + "-(r[".repeat(6) + "-r[0]" + "])".repeat(6) + "-" + "-".repeat(21) + "1;",
                2 + 24 + 5 + 12 + 1 + 20);
        rightRule("x=" + "(1)+".repeat(40) + "(2);");
        rightRule("x=" + "(".repeat(20) + "#r" + ")".repeat(20) + ";");
    }

    private static void classNames() {
        wrong("move c to a{}", 5);
        wrong("drop c;", 5);
        wrong("move a to b{}", 10);
        wrong("move a to a{} move a to c{}", 19);
        wrong("move a to a{} drop a;", 19);
        wrong("drop a; drop a;", 13);
        wrong("drop a; move a to a{}", 13);
        wrong("move c to b{}", 5);
        right("move a to a{} move b to a{}", 2);
    }

    private static void memberNames() {
        wrongRule("y=1;", 0);
        wrongRule("t=1;", 0);
        wrongRule("x=1;x=2;", 4);
        wrongRule("key=1;x=1;key=2;", 10);
        rightRule("key=1;x=1;n=2;");
        wrongRule("drop n;", 5);
        wrongRule("drop x;drop x;", 12);
        rightRule("drop x;drop l;drop t;");
        rightRule("drop x;x=x;n=x+1;");
        wrongRule("x=n;", 2);
        wrongRule("x=1+n;", 4);
        wrongRule("x=n[0];", 2);
        wrongRule("x=#n;", 3);
        wrongRule("key=n;", 4);
        wrongRule("x=r[n];", 4);
        wrong("move b to c{z=x;}", 14);
        right("move b to c{z=y+s[#s-1];}", 1);
    }

    private static void kindsInWork() {
        wrongRule("x=x[0];", 2);
        wrongRule("x=#x;", 3);
        wrongRule("x= # x;", 5);
        wrongRule("x=1+r;", 4);
        wrongRule("x=(r);", 3);
        wrongRule("x=(f);", 3);
        wrongRule("x=-d;", 3);
        wrongRule("x=f+1;", 2);
        wrongRule("x=1*d;", 4);
        wrongRule("x=g[0];", 2);
        wrongRule("x=f[0];", 2);
        wrongRule("x=1+dd[0];", 4);
        rightRule("x=#g+#dd;");
        wrongRule("x=#f;", 3);
        rightRule("key=x;");
        rightRule("key=t;");
        wrongRule("key=f;", 4);
        wrongRule("key=d;", 4);
        wrongRule("key=r;", 4);
        rightRule("key=r[0];");
        wrongRule("key=g[0];", 4);
        rightRule("x=r[r[r[0]]];");
    }

    private static void justNames() {
        rightRule("x=f;");
        rightRule("x=d;");
        rightRule("f=d;d=f;");
        rightRule("r=g;g=r;q=dd;");
        wrongRule("x=r;", 2);
        wrongRule("x= r;", 3);
        wrongRule("f=g;", 2);
        wrongRule("r=x;", 2);
        wrongRule("r=1;", 2);
        wrongRule("r= (r);", 3);
        wrongRule("r=r[0];", 2);
        wrongRule("r=-x;", 2);
        wrongRule("r=#r;", 2);
        wrongRule("q=1+n;", 2);
        wrongRule("r=key;", 2);
        wrongRule("r=n;", 2);
        wrongRule("n=(r)+1;", 3);
    }

    private static void piecesComeFirst() {
        wrong("move c to b{y=n;drop n;", 23);
        wrong("drop c; drop", 12);
        wrong("move a to a{x=n;} !", 18);
        wrongRule("y=1; x=n; x=2 2;", 14);
        wrongRule("x=n+r[0;", 7);
        wrongRule("x=n+" + "(".repeat(21), 4 + 20);
        wrongRule("x=1;y=2;x=3;", 4);
        wrongRule("q=n;drop n;", 2);
        wrongRule("n=l+f+r;", 4);
        wrongRule("n=l+r[f]+f;", 6);
        wrongRule("n=l+x[f];", 4);
    }

    private static void keepsAndForgets() {
        StateMoves x = fresh();
        DUE.is("forget of none", x.forget(0, 1) ? 1 : 0, 0);
        x.value(1, 0);
        x.set(1, 0, 5);
        Due.rules(x, 0, 1, "move a to a{x=x+1;}");
        DUE.is("told(2)", x.told(2), 1);
        DUE.is("a WRONG text", Due.rules(x, 0, 1, "move a to a{x=x+2;"), -10 - 18);
        DUE.is("told(2) as it was", x.told(2), 1);
        x.carry(1);
        DUE.is("those that there were stay", x.bits(1, 0, 0), 6);
        DUE.is("a WRONG first one", Due.rules(x, 1, 0, "!"), -10);
        DUE.is("is none", x.carry(0), StateMoves.STATE);
        DUE.is("in place of those", Due.rules(x, 0, 1, "move a to a{x=x+3;}"), 1);
        DUE.is("told(2) as it was", x.told(2), 1);
        x.begin(0);
        x.value(1, 0);
        DUE.is("dry", x.dry(1), 1);
        DUE.is("forget(1, 0)", x.forget(1, 0) ? 1 : 0, 0);
        DUE.is("forget(0, 1)", x.forget(0, 1) ? 1 : 0, 1);
        DUE.is("told(2)", x.told(2), 0);
        DUE.is("no RULES", x.carry(1), StateMoves.STATE);
        int[][] none = {{0, 0}, {-1, 0}, {0, -1}, {8, 0}, {0, 8}, {1, 1}, {Integer.MAX_VALUE, Integer.MIN_VALUE}};
        for (int[] pair : none) {
            DUE.is("forget of no builds", x.forget(pair[0], pair[1]) ? 1 : 0, 0);
        }
        allPairs();
    }

    private static void allPairs() {
        StateMoves x = new StateMoves();
        int have = 0;
        for (int from = 0; from < 8; from++) {
            for (int to = 0; to < 8; to++) {
                DUE.is("rules of a pair", x.rules(from, to), from == to ? StateMoves.BAD : 0);
                have += from == to ? 0 : 1;
            }
        }
        DUE.is("told(2)", x.told(2), have);
    }
}
