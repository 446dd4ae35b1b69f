/** RULES as a text, where it is WRONG, and promises 8 to 10: each sentence that names an edge. */
public final class EdgesOfTextTest {
    private static final Due DUE = new Due("EdgesOfTextTest");
    private static final int BAD = StateMoves.BAD, FULL = StateMoves.FULL, STATE = StateMoves.STATE;
    private static final String HEAD = "move a to a{";

    public static void main(String[] args) {
        blanks();
        signs();
        wordsAsLongAsCanBe();
        wordsOfNineLetters();
        numbers();
        numbersTooLarge();
        noneToSixMoves();
        grammarOfMoves();
        grammarOfRules();
        grammarOfWork();
        nestedTwenty();
        nestedSideBySide();
        placeOfThePiece();
        lengthWhenMoreMustCome();
        twentyFirst();
        piecesAheadOfMeaning();
        firstByPlaces();
        firstClassNames();
        secondClassNames();
        aheadOfEquals();
        dropsAndWork();
        droppedBefore();
        notInArrays();
        notToBeWorkedWith();
        justNames();
        rowsAndOthers();
        feedsFirstBytes();
        feedBad();
        feedFull();
        textIsEmptyThen();
        inPlaceOfThose();
        howManyMoves();
        lessThePlace();
        wrongOnesStay();
        rulesBad();
        forgets();
        forgetsNone();
        DUE.end();
    }

    /** BUILD 0: a, b and abcdefgh; BUILD 1: a and c. Of a, r and q are in ARRAYS, f d g FLOATS and DOUBLES. */
    private static StateMoves fresh() {
        StateMoves x = new StateMoves();
        Due.type(x, 0, "a", "x:4 l:5 r:4[] f:6 d:7 g:6[] t:0 dd:7[]");
        Due.type(x, 0, "b", "y:4 s:4[]");
        Due.type(x, 0, "abcdefgh", "zzzzzzzz:4");
        Due.type(x, 1, "a", "x:4 l:5 r:4[] f:6 d:7 g:6[] n:4 q:5[]");
        Due.type(x, 1, "c", "z:4");
        return x;
    }

    private static void right(String text, int moves) {
        DUE.is("«" + text + "»", Due.rules(fresh(), 0, 1, text), moves);
    }

    private static void wrong(String text, int place) {
        DUE.is("«" + text + "»", Due.rules(fresh(), 0, 1, text), -10 - place);
    }

    private static void rightRules(String... rules) {
        for (String rule : rules) {
            right(HEAD + rule + "}", 1);
        }
    }

    /** RULES of the MOVE of a, WRONG at a place counted from their own begin. */
    private static void wrongRule(String rules, int place) {
        wrong(HEAD + rules + "}", HEAD.length() + place);
    }

    private static void blanks() {
        DUE.sentence("RULES from a BUILD to another one are a text of pieces, blanks (32, 10) between as may be");
        for (int sign = 0; sign < 256; sign++) {
            boolean isBlank = sign == 32 || sign == 10;
            String one = String.valueOf((char) sign);
            DUE.is("byte " + sign + " alone", Due.rules(fresh(), 0, 1, one), isBlank ? 0 : -10);
            DUE.is("byte " + sign + " behind", Due.rules(fresh(), 0, 1, "drop a;" + one), isBlank ? 1 : -10 - 7);
        }
        right("", 0);
        right("\n".repeat(350) + " ".repeat(350), 0);
        right("move a to a{key=-(r[#r-1])*2/3%4+5;x=x;drop l;}drop b;", 2);
        right(" move a to a { key = - ( r [ # r - 1 ] ) * 2 / 3 % 4 + 5 ; x = x ; drop l ; } drop b ; ", 2);
        right("\nmove\na\nto\na\n\n{\nkey\n=\n-\n(\nr\n[\n#\nr\n-\n1\n]\n)\n;\ndrop\nl\n;\n}\ndrop\nb\n;\n\n", 2);
        wrong("mo ve a to a{}", 0);
        wrongRule("ke y=1;", 3);
        wrongRule("x=1 2;", 4);
    }

    private static void signs() {
        DUE.sentence("{ } ( ) [ ] ; = + - * / % #.");
        for (int sign = 0; sign < 256; sign++) {
            char one = (char) sign;
            int place = HEAD.length() + 3;
            int due = -10 - place;
            if ("+-*/%".indexOf(one) >= 0) {
                due = 1;
            } else if (one == ' ' || one == '\n' || one == ';' || one >= 'a' && one <= 'z') {
                due = -10 - place - 1;
            } else if (one == '[') {
                due = -10 - place - 2;
            }
            DUE.is("byte " + sign + " behind a NAME", Due.rules(fresh(), 0, 1, HEAD + "x=x" + one + "1;}"), due);
        }
        rightRules("x=(1);", "x=r[1];", "x=#r;", "");
    }

    private static void wordsAsLongAsCanBe() {
        DUE.sentence("WORDS, each as long as can be: letters a .. z");
        wrong("movea to a{}", 0);
        wrong("move ato a{}", 9);
        wrong("move a toa{}", 7);
        wrong("dropa;", 0);
        wrongRule("dropx;", 5);
        wrongRule("xx=1;", 0);
        wrongRule("keyx=1;", 0);
        wrongRule("x=keykey;", 2);
        wrongRule("x=xl;", 2);
        rightRules("x=x*key;", "key=1;drop x;", "n=1%l;");
        wrongRule("x=l1;", 3);
        wrongRule("x=1l;", 3);
    }

    private static void wordsOfNineLetters() {
        DUE.sentence("letters a .. z (a row of more than 8 is none)");
        right("drop abcdefgh;", 1);
        right("move abcdefgh to c{z=zzzzzzzz;}", 1);
        // A piece comes ahead of a NAME that is not there, so the place tells which of them it is.
        wrong("move q to abcdefgh{}", 5);
        wrong("move q to abcdefghi{}", 10);
        wrong("drop q;drop abcdefghi;", 12);
        wrong("move q to a{abcdefgh=1;}", 5);
        wrong("move q to a{abcdefghi=1;}", 12);
        wrong("move q to a{x=abcdefghi;}", 14);
        wrong("move q to a{drop abcdefghi;}", 17);
        wrong("movemovem a to a{}", 0);
        wrong("move q to " + "a".repeat(16) + "{}", 10);
        wrong("move q to " + "a".repeat(257) + "{}", 10);
        wrong("move q to " + "a".repeat(690), 10);
        StateMoves x = fresh();
        DUE.is("one of nine", Due.rules(x, 0, 1, "drop abcdefghi"), -10 - 5);
        DUE.is("one of eight behind it", Due.rules(x, 0, 1, "drop abcdefgh"), -10 - 13);
    }

    private static void number(String digits, long due) {
        StateMoves x = fresh();
        x.value(1, 0);
        DUE.is("rules with " + digits, Due.rules(x, 0, 1, HEAD + "l=" + digits + ";}"), 1);
        DUE.is("carry with " + digits, x.carry(1), 1);
        DUE.is(digits, x.bits(1, 1, 0), due);
    }

    private static void numbers() {
        DUE.sentence("NUMBERS: digits, 0 .. 2147483647 (others are none)");
        number("0", 0);
        number("1", 1);
        number("9", 9);
        number("10", 10);
        number("1234567890", 1234567890);
        number("2147483646", 2147483646);
        number("2147483647", 2147483647);
        number("0002147483647", 2147483647);
    }

    private static void numbersTooLarge() {
        DUE.sentence("0 .. 2147483647 (others are none)");
        String[] none = {"2147483648", "2147483649", "2147483650", "3000000000", "4294967295", "4294967296", "4294967297",
            "9999999999", "10000000000", "9223372036854775807", "9223372036854775808", "18446744073709551615",
            "18446744073709551616", "18446744073709551617", "340282366920938463463374607431768211457",
            "1" + "0".repeat(64), "1" + "0".repeat(600), "9".repeat(600)};
        for (String digits : none) {
            wrongRule("x=" + digits + ";", 2);
            wrongRule("x=q-" + digits + ";", 4);
        }
        wrongRule("x=-2147483648;", 3);
        wrongRule("x=1.5;", 3);
        StateMoves x = fresh();
        DUE.is("one of eleven digits", Due.rules(x, 0, 1, HEAD + "x=12345678901"), -10 - 14);
        DUE.is("one of ten behind it", Due.rules(x, 0, 1, HEAD + "x=1234567890"), -10 - 24);
    }

    private static void noneToSixMoves() {
        DUE.sentence("RULES: { MOVE }.");
        StateMoves x = new StateMoves();
        for (int i = 0; i < 6; i++) {
            x.type(0, 'a' + i);
            x.type(7, 'a' + i);
        }
        StringBuilder text = new StringBuilder();
        for (int i = 0; i < 6; i++) {
            DUE.is(i + " of them", Due.rules(x, 0, 7, text.toString()), i);
            char one = (char) ('a' + i);
            text.append(i % 2 == 0 ? "drop " + one + ";" : "move " + one + " to f{}");
        }
        DUE.is("all six", Due.rules(x, 0, 7, text.toString()), 6);
        DUE.is("one more", Due.rules(x, 0, 7, text + "drop a;"), -10 - text.length() - 5);
    }

    private static void grammarOfMoves() {
        DUE.sentence("MOVE: move NAME to NAME");
        wrong("a", 0);
        wrong("to a", 0);
        wrong("key=1;", 0);
        wrong("{}", 0);
        wrong("move to to a{}", 5);
        wrong("move 1 to a{}", 5);
        wrong("move 97 to a{}", 5);
        wrong("move a drop a{}", 7);
        wrong("move a to key{}", 10);
        wrong("move a to 97{}", 10);
        wrong("move a to a(", 11);
        wrong("move a to a}", 11);
        wrong("move a to a{}}", 13);
        wrong("move a to a{};", 13);
        wrong("move a to a{move b to c{}}", 12);
        wrong("drop drop;", 5);
        wrong("drop 97;", 5);
        wrong("drop a", 6);
        wrong("drop a to a;", 7);
        wrong("drop a{}", 6);
        wrong("drop a;;", 7);
    }

    private static void grammarOfRules() {
        DUE.sentence("RULE: key = E ; | NAME = E ; | drop NAME ;");
        wrongRule("key;", 3);
        wrongRule("key==1;", 4);
        wrongRule("x 1;", 2);
        wrongRule("x+1;", 1);
        wrongRule("x=1", 3);
        wrongRule("x=1;;", 4);
        wrongRule("move=1;", 0);
        wrongRule("to=1;", 0);
        wrongRule("drop=1;", 4);
        wrongRule("drop key;", 5);
        wrongRule("drop move;", 5);
        wrongRule("drop 120;", 5);
        wrongRule("drop x l;", 7);
        wrongRule("#r=1;", 0);
        wrongRule("r[0]=1;", 1);
        wrongRule("(x)=1;", 0);
        rightRules("key=key;", "x=1;", "drop x;", "drop x;x=1;key=2;", "");
    }

    private static void grammarOfWork() {
        DUE.sentence("E: T { (+ | -) T }. T: F { (* | / | %) F }. F: NUMBER | key | NAME | NAME [ E ] | # NAME | - F | ( E ).");
        String[] signs = {"+", "-", "*", "/", "%"};
        for (String sign : signs) {
            rightRules("x=1" + sign + "l;", "x=1" + sign + "-l;", "x=1" + sign + "(2" + sign + "3);");
            wrongRule("x=1" + sign + ";", 4);
            wrongRule("x=1" + sign + "*2;", 4);
            wrongRule("x=(1" + sign + ");", 5);
            wrongRule("x=r[1" + sign + "];", 6);
        }
        wrongRule("x=;", 2);
        wrongRule("x=+1;", 2);
        wrongRule("x=*1;", 2);
        wrongRule("x=to;", 2);
        wrongRule("x=move;", 2);
        wrongRule("x=drop;", 2);
        wrongRule("x=();", 3);
        wrongRule("x=(1;", 4);
        wrongRule("x=(1];", 4);
        wrongRule("x=1);", 3);
        wrongRule("x=r[];", 4);
        wrongRule("x=r[1);", 5);
        wrongRule("x=r];", 3);
        wrongRule("x=[1];", 2);
        wrongRule("x=1[0];", 3);
        wrongRule("x=key[0];", 5);
        wrongRule("x=r[0][0];", 6);
        wrongRule("x=(r)[0];", 5);
        wrongRule("x=#;", 3);
        wrongRule("x=##r;", 3);
        wrongRule("x=#key;", 3);
        wrongRule("x=#(r);", 3);
        wrongRule("x=#-r;", 3);
        wrongRule("x=#r[0];", 4);
        wrongRule("x=-;", 3);
        wrongRule("x=-+1;", 3);
        wrongRule("x={1};", 2);
        rightRules("x=-(-1);", "x=-r[-1];", "x=-#r;", "x=- - -1;", "x=1- - -1;", "x=(((l)));");
    }

    private static void nestedTwenty() {
        DUE.sentence("20 of the ( [ - of F may stand within one another.");
        for (int deep = 1; deep <= 20; deep++) {
            rightRules("x=" + "(".repeat(deep) + "1" + ")".repeat(deep) + ";",
                    "x=" + "-".repeat(deep) + "1;",
                    "x=" + "r[".repeat(deep) + "1" + "]".repeat(deep) + ";",
                    "x=" + "-(".repeat(deep / 2) + "1" + ")".repeat(deep / 2) + ";",
                    "key=" + "(r[".repeat(deep / 2) + "1" + "])".repeat(deep / 2) + ";");
        }
        rightRules("x=" + "-(r[".repeat(6) + "-(#r*l+key)" + "])".repeat(6) + ";");
        rightRules("x=" + "1+2*(".repeat(20) + "3+4*5" + ")".repeat(20) + ";");
        rightRules("x=" + "(".repeat(20) + "1+2-3*l/key%#r" + ")".repeat(20) + ";");
    }

    private static void nestedSideBySide() {
        DUE.sentence("may stand within one another");
        rightRules("x=" + "(1)+".repeat(100) + "(1);",
                "x=" + "-1-".repeat(100) + "-1;",
                "x=" + "r[1]*".repeat(100) + "r[1];",
                "x=" + "1-".repeat(300) + "1;",
                "x=" + "-".repeat(20) + "1-" + "-".repeat(20) + "1;",
                "x=(" + "-".repeat(19) + "1)-(" + "-".repeat(19) + "1);",
                "x=" + "(".repeat(20) + "1" + ")".repeat(20) + "-" + "r[".repeat(20) + "1" + "]".repeat(20) + ";",
                "x=" + "(".repeat(20) + "1" + ")".repeat(20) + ";n=" + "(".repeat(20) + "1" + ")".repeat(20) + ";");
    }

    private static void placeOfThePiece() {
        DUE.sentence("A text is WRONG at the first piece that can't stand there (its place");
        wrong("!", 0);
        wrong(" \n !", 3);
        wrong("drop a; ! !", 8);
        wrong("drop a; 12345", 8);
        wrong("drop a; abcde", 8);
        wrong("move a to a{x=1 23456;}", 16);
        wrong("move a to a{x=1 abcdef;}", 16);
        wrong("move a to a{}" + " ".repeat(686) + "}", 699);
        wrong("}".repeat(700), 0);
    }

    private static void lengthWhenMoreMustCome() {
        DUE.sentence("the length, when more must come");
        String[] pieces = {"move", "a", "to", "a", "{", "key", "=", "-", "(", "r", "[", "#", "r", "-", "1", "]", ")", "*", "2",
            "/", "l", ";", "x", "=", "x", ";", "drop", "l", ";", "}", "drop", "b", ";"};
        StringBuilder text = new StringBuilder();
        for (int i = 0; i <= pieces.length; i++) {
            boolean isWhole = i == 0 || i == 30 || i == pieces.length;
            int moves = i == 0 ? 0 : i == 30 ? 1 : 2;
            String blanks = " \n ".repeat(i % 3);
            int length = text.length() + blanks.length();
            DUE.is("«" + text + blanks + "»", Due.rules(fresh(), 0, 1, text + blanks), isWhole ? moves : -10 - length);
            if (i < pieces.length) {
                text.append(i > 0 ? " " : "").append(pieces[i]);
            }
        }
        wrong("move a to a{" + " ".repeat(688), 700);
        wrong("move a to a{x=" + "1+".repeat(343), 700);
        wrong("drop" + " ".repeat(696), 700);
    }

    private static void twentyFirst() {
        DUE.sentence("a 21st one within others at it");
        wrongRule("x=" + "(".repeat(21) + "1" + ")".repeat(21) + ";", 2 + 20);
        wrongRule("x=" + "-".repeat(21) + "1;", 2 + 20);
        wrongRule("x=" + "r[".repeat(21) + "1" + "]".repeat(21) + ";", 2 + 41);
        wrongRule("x=" + "(".repeat(20) + "r[1]" + ")".repeat(20) + ";", 2 + 21);
        wrongRule("x=" + "(".repeat(20) + "-1" + ")".repeat(20) + ";", 2 + 20);
        wrongRule("x=" + "-".repeat(20) + "(1);", 2 + 20);
        wrongRule("x=" + "-".repeat(20) + "r [1];", 2 + 22);
        wrongRule("x=" + "r[".repeat(20) + "-1" + "]".repeat(20) + ";", 2 + 40);
        wrongRule("x=" + "r[".repeat(20) + "(1)" + "]".repeat(20) + ";", 2 + 40);
        wrongRule("x=1-" + "(".repeat(20) + "1" + "-(1)" + ")".repeat(20) + ";", 4 + 22);
        wrongRule("x=" + "(".repeat(20) + "1" + ")".repeat(20) + "+" + "(".repeat(21), 2 + 41 + 1 + 20);
        wrongRule("x=" + "(".repeat(21), 2 + 20);
        wrongRule("x=" + "(".repeat(600), 2 + 20);
        wrongRule("x=" + "-".repeat(600), 2 + 20);
        wrongRule("x=" + "r[".repeat(300), 2 + 41);
        wrongRule("key=" + "-".repeat(21) + "1;", 4 + 20);
        wrongRule("x=q;q=" + "-".repeat(21) + "1;", 6 + 20);
        wrongRule("x=" + "-".repeat(21) + "q;q=1;", 2 + 20);
    }

    private static void piecesAheadOfMeaning() {
        DUE.sentence("A text is WRONG at the first piece that can't stand there");
        wrong("drop q; drop", 12);
        wrong("drop q; drop a; !", 16);
        wrong("move q to q{q=q;drop q;} move", 29);
        wrong("drop a; drop a; ;", 16);
        wrongRule("x=q; x=2 2;", 9);
        wrongRule("drop q; x=2147483648;", 10);
        wrongRule("r=1; x=abcdefghi;", 7);
        wrongRule("x=f+r+l[0]+#x+(;", 15);
    }

    private static void firstByPlaces() {
        DUE.sentence("else at the first of these, by places");
        wrong("drop q; drop p; drop a;", 5);
        wrong("move a to q{x=p;} drop p;", 10);
        wrong("move q to p{x=1;}", 5);
        wrong("move a to c{x=1;z=q;}", 12);
        wrongRule("x=q;drop q;q=1;", 2);
        wrongRule("drop q;x=q;q=1;", 5);
        wrongRule("w=1;x=q;drop q;", 0);
        wrongRule("x=1;x=q;", 4);
        wrongRule("x=l+q;x=1;", 4);
        wrongRule("x=l+f+r;", 4);
        wrongRule("x=r[f]+q;", 4);
        wrongRule("x=l[q];", 2);
        wrongRule("x=#l+q;", 3);
        wrongRule("r=1+q;", 2);
        wrongRule("w=r;r=1;", 0);
        wrongRule("q=r;r=1;", 6);
        wrong("move a to a{x=q;}move q to a{}", 14);
    }

    private static void firstClassNames() {
        DUE.sentence("a NAME of a CLASS of the first BUILD (behind move, or drop) that it has not, or that stood so before");
        wrong("move c to a{}", 5);
        wrong("drop c;", 5);
        wrong("move x to a{}", 5);
        wrong("move abcdefg to a{}", 5);
        wrong("drop b; move bb to a{}", 13);
        wrong("move a to a{}move a to c{}", 18);
        wrong("move a to a{}drop a;", 18);
        wrong("drop a;move a to a{}", 12);
        wrong("drop a;drop a;", 12);
        wrong("drop a;drop b;drop a;", 19);
        right("move a to c{}move b to c{}", 2);
        right("drop a;move b to a{}drop abcdefgh;", 3);
        DUE.is("of the first BUILD, not the second", Due.rules(fresh(), 1, 0, "drop b;"), -10 - 5);
        DUE.is("of a BUILD without CLASSES", Due.rules(fresh(), 2, 0, "drop a;"), -10 - 5);
    }

    private static void secondClassNames() {
        DUE.sentence("of the second one (behind to) that it has not");
        wrong("move a to b{}", 10);
        wrong("move b to abcdefgh{}", 10);
        wrong("move a to x{}", 10);
        right("move a to c{}", 1);
        right("move a to a{}move b to a{}move abcdefgh to a{}", 3);
        DUE.is("of the second BUILD, not the first", Due.rules(fresh(), 1, 0, "move a to c{}"), -10 - 10);
        DUE.is("of a BUILD without CLASSES", Due.rules(fresh(), 0, 2, "move a to a{}"), -10 - 10);
    }

    private static void aheadOfEquals() {
        DUE.sentence("in a MOVE ahead of = one that the CLASS of the second BUILD has not, or a NAME, or key, that stood there before");
        wrongRule("t=1;", 0);
        wrongRule("y=1;", 0);
        wrongRule("z=1;", 0);
        wrongRule("x=1;a=1;", 4);
        wrong("move a to c{x=1;}", 12);
        wrong("move a to c{z=1;n=1;}", 16);
        wrongRule("x=1;x=1;", 4);
        wrongRule("x=1;l=1;n=1;x=1;", 12);
        wrongRule("r=r;r=r;", 4);
        wrongRule("key=1;key=1;", 6);
        wrongRule("key=1;x=1;key=1;", 10);
        rightRules("key=1;x=1;l=1;r=r;f=1;d=1;g=g;n=1;q=r;", "n=1;drop x;");
        right("move a to a{x=1;key=1;}move b to a{x=1;key=1;}", 2);
        right("move a to c{z=1;}move b to c{z=1;}", 2);
        wrong("move a to a{x=1;}move b to a{x=1;x=1;}", 33);
    }

    private static void dropsAndWork() {
        DUE.sentence("behind drop, or in E, one that the CLASS of the first BUILD has not");
        wrongRule("drop n;", 5);
        wrongRule("drop y;", 5);
        wrongRule("drop a;", 5);
        wrongRule("x=n;", 2);
        wrongRule("x=q;", 2);
        wrongRule("q=q;", 2);
        wrongRule("x=1+n;", 4);
        wrongRule("x=(n);", 3);
        wrongRule("x=-n;", 3);
        wrongRule("x=n[0];", 2);
        wrongRule("x=q[0];", 2);
        wrongRule("x=#q;", 3);
        wrongRule("x=r[n];", 4);
        wrongRule("key=n;", 4);
        wrong("move b to c{z=x;}", 14);
        wrong("move b to c{drop x;}", 17);
        right("move b to c{z=y;drop s;}", 1);
        rightRules("x=t;", "drop t;", "drop dd;", "q=dd;");
    }

    private static void droppedBefore() {
        DUE.sentence("behind a drop one that was dropped before");
        wrongRule("drop x;drop x;", 12);
        wrongRule("drop x;drop l;drop dd;drop x;", 27);
        wrongRule("drop dd;x=1;drop dd;", 17);
        rightRules("drop x;drop l;drop r;drop f;drop d;drop g;drop t;drop dd;", "drop x;x=x;n=x+x;");
        StateMoves x = new StateMoves();
        Due.type(x, 0, "a", "x:4");
        Due.type(x, 0, "b", "x:4");
        Due.type(x, 1, "a", "x:4");
        DUE.is("in another MOVE", Due.rules(x, 0, 1, "move a to a{drop x;}move b to a{drop x;}"), 2);
        DUE.is("a CLASS of its NAME", Due.rules(x, 0, 1, "drop a;move b to a{drop x;}"), 2);
    }

    private static void notInArrays() {
        DUE.sentence("in E: a NAME with [ ], or #, that is not in ARRAYS");
        wrongRule("x=x[0];", 2);
        wrongRule("x=1+t[0];", 4);
        wrongRule("x=f[0];", 2);
        wrongRule("x=x [0];", 2);
        wrongRule("x=r[l[0]];", 4);
        wrongRule("x=#x;", 3);
        wrongRule("x=# x;", 4);
        wrongRule("x=#d;", 3);
        wrongRule("key=#x;", 5);
        wrongRule("key=x[0];", 4);
        rightRules("x=r[0];", "x=#r;", "x=#g+#dd;", "key=#g;", "key=r[#r];");
    }

    private static void notToBeWorkedWith() {
        DUE.sentence("one without, that is in ARRAYS, or a FLOAT or DOUBLE, as also one of these with [ ], at it");
        wrongRule("x=1+r;", 4);
        wrongRule("x=r+1;", 2);
        wrongRule("x=(r);", 3);
        wrongRule("x=-r;", 3);
        wrongRule("x=r[r];", 4);
        wrongRule("key=r;", 4);
        wrongRule("x=f+1;", 2);
        wrongRule("x=1*d;", 4);
        wrongRule("x=(f);", 3);
        wrongRule("x=-d;", 3);
        wrongRule("x=r[f];", 4);
        wrongRule("key=f;", 4);
        wrongRule("key=d;", 4);
        wrongRule("key=g;", 4);
        wrongRule("x=g+1;", 2);
        wrongRule("x=g[0];", 2);
        wrongRule("x=1+dd[0];", 4);
        wrongRule("key=dd[0];", 4);
        wrongRule("f=g[0];", 2);
        wrongRule("f=(f);", 3);
        rightRules("x=t+1;", "x=x+l+t;", "key=t;", "f=l+1;", "d=x*2;");
    }

    private static void justNames() {
        DUE.sentence("but E may be just a NAME (of anything) in NAME = E");
        String[] ones = {"x", "l", "f", "d", "t"};
        String[] rows = {"r", "g", "dd"};
        String[] targets = {"x", "l", "f", "d", "n"};
        for (String target : targets) {
            for (String one : ones) {
                rightRules(target + "=" + one + ";", target + " = " + one + " ;");
            }
        }
        for (String row : rows) {
            rightRules("r=" + row + ";", "g=" + row + ";", "q=\n" + row + "\n;");
        }
        wrongRule("x=f f;", 4);
        wrongRule("x=(f);", 3);
        wrongRule("r=(r);", 2);
        wrongRule("x=f*1;", 2);
    }

    private static void rowsAndOthers() {
        DUE.sentence("A NAME in ARRAYS ahead of = and E not just such a NAME, or the other way: at the piece behind =.");
        wrongRule("r=1;", 2);
        wrongRule("r= 1;", 3);
        wrongRule("r=key;", 2);
        wrongRule("r=x;", 2);
        wrongRule("r=f;", 2);
        wrongRule("r=\n x;", 4);
        wrongRule("r=r[0];", 2);
        wrongRule("r=#r;", 2);
        wrongRule("r=-x;", 2);
        wrongRule("r=(r);", 2);
        wrongRule("r= (x)+1;", 3);
        wrongRule("r=1+x[0];", 2);
        wrongRule("x=r;", 2);
        wrongRule("x= r;", 3);
        wrongRule("f=g;", 2);
        wrongRule("n=dd;", 2);
        wrongRule("x=1;q=l;", 6);
    }

    private static void feedsFirstBytes() {
        DUE.sentence("The first n (1 .. 16) of the sixteen bytes of a and b, the highest of each first, come behind THE TEXT: how many it has.");
        for (int place = 0; place < 16; place++) {
            String text = " ".repeat(place) + "!" + " ".repeat(15 - place);
            long a = Due.half(text, 0);
            long b = Due.half(text, 8);
            StateMoves x = fresh();
            DUE.is("all sixteen", x.feed(a, b, 16), 16);
            DUE.is("the one at " + place, x.rules(0, 1), -10 - place);
            DUE.is("up to it", x.feed(a, b, place + 1), place + 1);
            DUE.is("the last one", x.rules(0, 1), -10 - place);
            if (place > 0) {
                DUE.is("not up to it", x.feed(a, b, place), place);
                DUE.is("blanks alone", x.rules(0, 1), 0);
            }
            DUE.is("blanks", x.feed(Due.half("        ", 0), 0, 8), 8);
            DUE.is("behind them", x.feed(a, b, 16), 24);
            DUE.is("the one behind", x.rules(0, 1), -10 - 8 - place);
        }
    }

    private static void feedBad() {
        DUE.sentence("how many it has. BAD; FULL: it would have more than 700.");
        StateMoves x = fresh();
        int[] none = {0, -1, 17, 18, -16, 256, Integer.MIN_VALUE, Integer.MAX_VALUE};
        for (int n : none) {
            DUE.is("n " + n, x.feed(-1L, -1L, n), BAD);
        }
        DUE.is("nothing came", x.feed(-1L, -1L, 1), 1);
        DUE.is("n 16", x.feed(-1L, -1L, 16), 17);
    }

    private static void feedFull() {
        DUE.sentence("FULL: it would have more than 700.");
        long blanks = Due.half("        ", 0);
        for (int n = 1; n <= 16; n++) {
            StateMoves x = fresh();
            for (int i = 0; i < 43; i++) {
                x.feed(blanks, blanks, 16);
            }
            x.feed(blanks, blanks, n <= 12 ? 12 - n + 1 : 1);
            int have = n <= 12 ? 701 - n : 689;
            DUE.is(n + " more than " + have, x.feed(-1L, -1L, n), FULL);
            DUE.is("FULL changes nothing", x.rules(0, 1), 0);
        }
        StateMoves x = fresh();
        for (int i = 0; i < 43; i++) {
            DUE.is("sixteen more", x.feed(blanks, blanks, 16), 16 * (i + 1));
        }
        DUE.is("just 700", x.feed(blanks, blanks, 12), 700);
        DUE.is("701", x.feed(-1L, -1L, 1), FULL);
        DUE.is("716", x.feed(-1L, -1L, 16), FULL);
        DUE.is("BAD ahead of FULL", x.feed(-1L, -1L, 0), BAD);
        DUE.is("BAD ahead of FULL", x.feed(-1L, -1L, 17), BAD);
        DUE.is("BAD ahead of FULL", x.feed(-1L, -1L, Integer.MAX_VALUE), BAD);
        DUE.is("the text", x.rules(0, 1), 0);
        DUE.is("room again", x.feed(-1L, -1L, 16), 16);
    }

    private static void textIsEmptyThen() {
        DUE.sentence("THE TEXT, which is empty then, is the RULES from a BUILD to another one");
        StateMoves x = fresh();
        String[] texts = {"drop a;", "drop a", "drop q;", ""};
        int[][] pairs = {{0, 1}, {0, 0}, {0, 8}, {-1, 1}, {9, 9}};
        for (String text : texts) {
            for (int[] pair : pairs) {
                Due.rules(x, pair[0], pair[1], text);
                DUE.is("behind «" + text + "», " + pair[0] + ", " + pair[1], x.feed(Due.half(" ", 0), 0, 1), 1);
                DUE.is("nothing is left of it", x.rules(0, 1), 0);
            }
        }
        Due.feed(x, "drop ");
        DUE.is("other calls leave it", x.told(0) + x.begin(0) + x.unknown(0), 0);
        x.carry(1);
        x.forget(0, 1);
        Due.feed(x, "a;");
        DUE.is("the whole of it", x.rules(0, 1), 1);
    }

    private static void inPlaceOfThose() {
        DUE.sentence("in place of those that there were");
        StateMoves x = fresh();
        // Longer ones first: nothing of them may be left, nor the room for them be used up.
        for (int round = 0; round < 4; round++) {
            DUE.is("long ones", Due.rules(x, 0, 1, HEAD + "l=" + "1+".repeat(340) + "1;}"), 1);
        }
        DUE.is("short ones", Due.rules(x, 0, 1, HEAD + "x=" + "2*".repeat(20) + "3;}"), 1);
        x.value(1, 0);
        x.set(1, 1, 7);
        DUE.is("carry", x.carry(1), 1);
        DUE.is("the new RULE", x.bits(1, 0, 0), 3 << 20);
        DUE.is("the old one is gone", x.bits(1, 1, 0), 7);
        DUE.is("one text still", x.told(2), 1);
    }

    private static void howManyMoves() {
        DUE.sentence("how many MOVES and drops of CLASSES");
        right("", 0);
        right("drop a;", 1);
        right("move a to a{}", 1);
        right("move a to a{drop x;drop l;x=1;}", 1);
        right("move a to a{drop x;}drop b;", 2);
        right("drop a;move b to c{}drop abcdefgh;", 3);
    }

    private static void lessThePlace() {
        DUE.sentence("-10 less the place where it is WRONG");
        for (int place = 0; place < 16; place++) {
            DUE.is("at " + place, Due.rules(fresh(), 0, 1, " ".repeat(place) + "!"), -10 - place);
        }
        wrong(" ".repeat(699) + "!", 699);
        wrong(" ".repeat(696) + "move", 700);
    }

    private static void wrongOnesStay() {
        DUE.sentence("where it is WRONG (then those stay)");
        StateMoves x = fresh();
        x.value(1, 0);
        DUE.is("a WRONG one where there are none", Due.rules(x, 0, 1, "drop"), -10 - 4);
        DUE.is("no RULES", x.told(2), 0);
        DUE.is("no RULES lead there", x.dry(1), STATE);
        DUE.is("right ones", Due.rules(x, 0, 1, HEAD + "x=5;}"), 1);
        String[] wrong = {"drop", "drop q;", HEAD + "x=6;", HEAD + "x=6;x=7;}", "drop a;drop a;", "!", HEAD + "x=7;r=1;}"};
        for (String text : wrong) {
            DUE.holds("«" + text + "» is WRONG", Due.rules(x, 0, 1, text) <= -10);
            DUE.is("those are there", x.told(2), 1);
            DUE.is("those lead there", x.dry(1), 1);
            DUE.is("nothing is dropped", x.lost(1), 0);
            DUE.is("a right one behind it", Due.rules(x, 0, 1, HEAD + "x=5;}"), 1);
        }
        x.carry(1);
        DUE.is("those tell", x.bits(1, 0, 0), 5);
    }

    private static void rulesBad() {
        DUE.sentence("BAD: the builds, or they are one.");
        StateMoves x = fresh();
        DUE.is("RULES", Due.rules(x, 0, 1, "drop a;"), 1);
        int[] none = {-1, 8, 9, Integer.MIN_VALUE, Integer.MAX_VALUE};
        for (int build : none) {
            for (int other = 0; other < 8; other++) {
                DUE.is("from " + build, x.rules(build, other), BAD);
                DUE.is("to " + build, x.rules(other, build), BAD);
            }
            DUE.is("both", x.rules(build, build), BAD);
        }
        for (int build = 0; build < 8; build++) {
            DUE.is("one", x.rules(build, build), BAD);
        }
        DUE.is("BAD ahead of WRONG", Due.rules(x, 3, 3, "!"), BAD);
        DUE.is("those that there were", x.told(2), 1);
    }

    private static void forgets() {
        DUE.sentence("RULES go: whether there were such.");
        StateMoves x = fresh();
        x.rules(0, 1);
        x.rules(1, 0);
        x.rules(0, 2);
        DUE.is("there were such", x.forget(0, 1) ? 1 : 0, 1);
        DUE.is("they went", x.forget(0, 1) ? 1 : 0, 0);
        DUE.is("they lead nowhere", x.carry(1), STATE);
        DUE.is("those back stay", x.told(2), 2);
        DUE.is("others stay", x.dry(2), 0);
        DUE.is("those back", x.forget(1, 0) ? 1 : 0, 1);
        DUE.is("the others", x.forget(0, 2) ? 1 : 0, 1);
        DUE.is("none are left", x.told(2), 0);
        DUE.is("they may come again", x.rules(0, 1), 0);
        DUE.is("and go", x.forget(0, 1) ? 1 : 0, 1);
        Due.rules(x, 0, 1, "!");
        DUE.is("a WRONG text is none", x.forget(0, 1) ? 1 : 0, 0);
    }

    private static void forgetsNone() {
        DUE.sentence("RULES go: whether there were such.");
        StateMoves x = new StateMoves();
        for (int from = 0; from < 8; from++) {
            for (int to = 0; to < 8; to++) {
                x.rules(from, to);
            }
        }
        int[] none = {-1, 8, 9, -8, Integer.MIN_VALUE, Integer.MAX_VALUE};
        for (int build : none) {
            for (int other = 0; other < 8; other++) {
                DUE.is("from " + build + " to " + other, x.forget(build, other) ? 1 : 0, 0);
                DUE.is("from " + other + " to " + build, x.forget(other, build) ? 1 : 0, 0);
            }
        }
        for (int build = 0; build < 8; build++) {
            DUE.is("one BUILD", x.forget(build, build) ? 1 : 0, 0);
        }
        DUE.is("all are there", x.told(2), 56);
    }
}
