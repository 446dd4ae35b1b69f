import java.nio.charset.StandardCharsets;

/** Counts the answers that are not the ones that are due, and tells names and texts as the class wants them. */
final class Due {
    private final String test;
    private int wrong;
    private int asked;

    Due(String test) {
        this.test = test;
    }

    void is(String what, long got, long want) {
        asked++;
        if (got != want) {
            wrong++;
            System.out.println(test + ": " + what + " answered " + got + ", due is " + want);
        }
    }

    void holds(String what, boolean got) {
        is(what, got ? 1 : 0, 1);
    }

    void end() {
        System.out.println(test + ": " + asked + " answers, " + wrong + " not as due");
        if (wrong != 0 || asked == 0) {
            System.exit(1);
        }
    }

    static long name(String name) {
        long told = 0;
        for (byte letter : name.getBytes(StandardCharsets.ISO_8859_1)) {
            told = told << 8 | letter & 0xFF;
        }
        return told;
    }

    /** Feeds a text, sixteen bytes at most at a time: the last answer (0 for an empty text). */
    static int feed(StateMoves x, String text) {
        int answer = 0;
        for (int i = 0; i < text.length(); i += 16) {
            int n = Math.min(16, text.length() - i);
            answer = x.feed(half(text, i), half(text, i + 8), n);
        }
        return answer;
    }

    static long half(String text, int at) {
        long told = 0;
        for (int i = 0; i < 8; i++) {
            told = told << 8 | (at + i < text.length() ? text.charAt(at + i) & 0xFF : 0);
        }
        return told;
    }

    static int rules(StateMoves x, int from, int to, String text) {
        feed(x, text);
        return x.rules(from, to);
    }

    /** A class with members told as "x:4 r:2[]" (TYPE, and [] in ARRAYS): its number. */
    static int type(StateMoves x, int build, String name, String members) {
        int cls = x.type(build, name(name));
        for (String told : members.trim().split("\\s+")) {
            if (!told.isEmpty()) {
                int colon = told.indexOf(':');
                int type = told.charAt(colon + 1) - '0';
                x.member(build, cls, name(told.substring(0, colon)), type, told.endsWith("[]"));
            }
        }
        return cls;
    }
}
