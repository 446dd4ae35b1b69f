import java.io.IOException;
import java.io.UncheckedIOException;
import java.nio.charset.StandardCharsets;
import java.nio.file.Files;
import java.nio.file.Path;

/** Counts the answers that are not the ones that are due, and tells names and texts as the class wants them. */
final class Due {
    private static final Path DOCUMENT = Path.of("../shared/DOC.md");

    private final String test;
    private String document;
    private String sentence = "";
    private int sentences;
    private int askedBefore;
    private int wrong;
    private int asked;

    Due(String test) {
        this.test = test;
    }

    /** What is asked from here on holds these words of the document. */
    void sentence(String words) {
        endSentence();
        sentence = words;
        sentences++;
        askedBefore = asked;
        if (!document().isEmpty() && !document().contains(oneLine(words))) {
            fault("the document does not say «" + words + "»");
        }
    }

    // A sentence that nothing was asked for is held by no test.
    private void endSentence() {
        if (sentences > 0 && asked == askedBefore) {
            fault("nothing was asked for «" + sentence + "»");
        }
    }

    private String document() {
        if (document == null) {
            try {
                document = Files.exists(DOCUMENT) ? oneLine(Files.readString(DOCUMENT)) : "";
            } catch (IOException broken) {
                throw new UncheckedIOException(broken);
            }
        }
        return document;
    }

    private static String oneLine(String text) {
        return text.replaceAll("\\s+", " ");
    }

    private void fault(String what) {
        wrong++;
        System.out.println(test + ": " + what);
    }

    void is(String what, long got, long want) {
        asked++;
        if (got != want) {
            String of = sentence.isEmpty() ? "" : " (of «" + sentence + "»)";
            fault(what + " answered " + got + ", due is " + want + of);
        }
    }

    void same(String what, String got, String want) {
        asked++;
        if (!got.equals(want)) {
            fault(what + " (of «" + sentence + "»): there is\n" + got + "due is\n" + want);
        }
    }

    void holds(String what, boolean got) {
        is(what, got ? 1 : 0, 1);
    }

    void end() {
        endSentence();
        String held = sentences == 0 ? "" : sentences + " sentences, ";
        System.out.println(test + ": " + held + asked + " answers, " + wrong + " not as due");
        if (wrong != 0 || asked == 0) {
            System.exit(1);
        }
    }

    static long name(String name) {
        long told = 0;
        for (byte letter : name.getBytes(StandardCharsets.ISO_8859_1)) {
            told = told << 8 | letter & 0xFF;
        }
        return told;
    }

    /** Feeds a text, sixteen bytes at most at a time: the last answer (0 for an empty text). */
    static int feed(StateMoves x, String text) {
        int answer = 0;
        for (int i = 0; i < text.length(); i += 16) {
            int n = Math.min(16, text.length() - i);
            answer = x.feed(half(text, i), half(text, i + 8), n);
        }
        return answer;
    }

    static long half(String text, int at) {
        long told = 0;
        for (int i = 0; i < 8; i++) {
            told = told << 8 | (at + i < text.length() ? text.charAt(at + i) & 0xFF : 0);
        }
        return told;
    }

    static int rules(StateMoves x, int from, int to, String text) {
        feed(x, text);
        return x.rules(from, to);
    }

    /** A class with members told as "x:4 r:2[]" (TYPE, and [] in ARRAYS): its number. */
    static int type(StateMoves x, int build, String name, String members) {
        int cls = x.type(build, name(name));
        for (String told : members.trim().split("\\s+")) {
            if (!told.isEmpty()) {
                int colon = told.indexOf(':');
                int type = told.charAt(colon + 1) - '0';
                x.member(build, cls, name(told.substring(0, colon)), type, told.endsWith("[]"));
            }
        }
        return cls;
    }

    /** All that THE STATE tells, a line for each VALUE; of many VALUES that takes more calls than an object has. */
    static String picture(StateMoves x) {
        StringBuilder told = new StringBuilder("BUILD " + x.told(0) + ", VALUES " + x.told(1) + "\n");
        for (int i = 0; i < x.told(1); i++) {
            long key = x.key(i);
            told.append(key).append(" of ").append(x.classOf(key));
            for (int member = 0; x.many(key, member) >= 0; member++) {
                told.append(" [");
                for (int k = 0; k < x.many(key, member); k++) {
                    told.append(' ').append(x.bits(key, member, k));
                }
                told.append(" ]");
            }
            told.append('\n');
        }
        return told.toString();
    }
}
