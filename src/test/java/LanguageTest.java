import java.io.PrintWriter;
import java.io.StringWriter;
import java.util.ArrayList;
import java.util.LinkedHashMap;
import java.util.List;
import java.util.Map;
import java.util.Optional;
import java.util.Set;
import java.util.TreeSet;
import java.util.regex.Matcher;
import java.util.regex.Pattern;
import java.util.spi.ToolProvider;

/** The rules of LANGUAGE.md that the compiled class shows: what it calls, how deep calls go, and what recurs. */
public final class LanguageTest {
    private static final Due DUE = new Due("LanguageTest");
    private static final Pattern HEAD = Pattern.compile("  ((?:[\\w.$\\[\\]]+ )*)([\\w.$]+)\\((.*)\\);");
    private static final Pattern USED = Pattern.compile("// (?:Interface)?Method (?:([\\w/$\"\\[;]+)\\.)?([\\w$\"<>]+):(\\S+)");

    /** Rule 4, as far as a class can use it without texts and lists. */
    private static final Pattern LIBRARY = Pattern.compile("java/lang/Object\\.<init>|java/lang/System\\.arraycopy"
            + "|java/util/Arrays\\.(fill|copyOf|copyOfRange)|java/lang/(Math|Integer|Long)\\.\\w+(?<!Exact)"
            + "|\\[+[IJSBCZ]\\.clone");

    /** Each method with those that it calls, and its head as it is told. */
    private static final Map<String, Set<String>> CALLS = new LinkedHashMap<>();
    private static final Map<String, String> HEADS = new LinkedHashMap<>();

    public static void main(String[] args) {
        Optional<ToolProvider> javap = ToolProvider.findFirst("javap");
        if (javap.isEmpty()) {
            System.out.println("LanguageTest: this JDK has no javap, nothing is looked at");
            return;
        }
        for (String name : classes()) {
            read(name, told(javap.get(), name));
        }
        DUE.holds("methods were found", CALLS.size() > 100);
        library();
        depth();
        recursion();
        DUE.end();
    }

    private static List<String> classes() {
        List<String> names = new ArrayList<>(List.of("StateMoves"));
        for (Class<?> inside : StateMoves.class.getDeclaredClasses()) {
            names.add(inside.getName());
        }
        return names;
    }

    private static String told(ToolProvider javap, String name) {
        StringWriter told = new StringWriter();
        PrintWriter out = new PrintWriter(told);
        int code = javap.run(out, out, "-c", "-p", "-cp", System.getProperty("java.class.path"), name);
        DUE.is("javap of " + name, code, 0);
        return told.toString();
    }

    private static void read(String home, String told) {
        for (String word : List.of("athrow", "monitorenter", "invokedynamic", "Exception table")) {
            DUE.holds(home + " has no " + word, !told.contains(word));
        }
        String method = "";
        for (String line : told.split("\n")) {
            Matcher head = HEAD.matcher(line);
            Matcher used = USED.matcher(line);
            if (head.matches()) {
                method = home + "." + (head.group(2).equals(home) ? "<init>" : head.group(2));
                // Methods of one name are taken for one: chains may seem longer than they are, never shorter.
                CALLS.putIfAbsent(method, new TreeSet<>());
                HEADS.put(method, line.trim());
            } else if (used.find() && CALLS.containsKey(method)) {
                String owner = used.group(1) == null ? home : used.group(1);
                CALLS.get(method).add((owner + "." + used.group(2)).replace("\"", ""));
            }
        }
    }

    private static void library() {
        CALLS.forEach((method, used) -> {
            for (String one : used) {
                DUE.holds(method + " may call " + one, CALLS.containsKey(one) || LIBRARY.matcher(one).matches());
            }
        });
    }

    private static void depth() {
        for (String method : CALLS.keySet()) {
            List<String> chain = longest(method, List.of());
            DUE.holds("at most eight deep: " + chain, chain.size() <= 8);
        }
    }

    /** The longest chain of calls from here on in which no method stands twice. */
    private static List<String> longest(String method, List<String> open) {
        List<String> here = new ArrayList<>(open);
        here.add(method);
        List<String> best = here;
        for (String next : CALLS.getOrDefault(method, Set.of())) {
            if (!here.contains(next)) {
                List<String> chain = longest(next, here);
                best = chain.size() > best.size() ? chain : best;
            }
        }
        return best;
    }

    /** A method that comes to itself again is private and carries a depth. */
    private static void recursion() {
        Set<String> again = new TreeSet<>();
        for (String method : CALLS.keySet()) {
            if (reaches(method, method, new TreeSet<>())) {
                again.add(method);
                DUE.holds(HEADS.get(method), HEADS.get(method).matches("private .*\\(int\\);"));
            }
        }
        DUE.holds("E's stand within one another: " + again, again.size() > 0);
    }

    private static boolean reaches(String from, String wanted, Set<String> seen) {
        for (String next : CALLS.getOrDefault(from, Set.of())) {
            if (next.equals(wanted) || seen.add(next) && reaches(next, wanted, seen)) {
                return true;
            }
        }
        return false;
    }
}
