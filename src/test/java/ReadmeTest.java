import java.io.IOException;
import java.lang.reflect.Method;
import java.lang.reflect.Modifier;
import java.net.URL;
import java.net.URLClassLoader;
import java.nio.file.Files;
import java.nio.file.Path;
import java.util.ArrayList;
import java.util.List;
import java.util.Set;
import java.util.TreeSet;
import java.util.function.Supplier;
import java.util.regex.Matcher;
import java.util.regex.Pattern;
import java.util.stream.Stream;
import javax.tools.JavaCompiler;
import javax.tools.ToolProvider;

/** What README.md says is so: its Java compiles, its calls answer what it says, its tables leave nothing out. */
public final class ReadmeTest {
    private static final Due DUE = new Due("ReadmeTest");
    private static final Pattern BLOCK = Pattern.compile("(?ms)^```(\\w+)\n(.*?)^```$");
    private static final Pattern CALL = Pattern.compile("((?:[xy]\\.)?\\w+\\(.*\\)); *// ([^\\s:]+)(:.*)?");
    private static final String CLASS = "ReadmeCalls";

    /** The calls of README.md as the list of a program: each call's text, its answer, and the one that is told. */
    private static final StringBuilder CALLS = new StringBuilder();
    private static final StringBuilder FUNCTIONS = new StringBuilder();
    private static final Set<String> CALLED = new TreeSet<>();

    public static void main(String[] args) throws Exception {
        String text = Files.readString(Path.of("README.md"));
        Matcher block = BLOCK.matcher(text);
        while (block.find()) {
            if (block.group(1).equals("java")) {
                takeJava(block.group(2));
            } else if (block.group(1).equals("text")) {
                rulesTold(block.group(2));
            }
        }
        answers(compiled());
        everyCall(text);
        everyTest(text);
        DUE.end();
    }

    private static void takeJava(String code) {
        if (code.startsWith("static ")) {
            FUNCTIONS.append(code);
            return;
        }
        for (String line : code.split("\n")) {
            Matcher call = CALL.matcher(line);
            if (call.matches()) {
                takeCall(call.group(1), call.group(2));
            } else {
                DUE.holds("an answer stands behind: " + line, line.startsWith("//") || line.contains("= new StateMoves();"));
                CALLS.append(line).append('\n');
            }
        }
    }

    private static void takeCall(String call, String told) {
        boolean isName = Set.of("NONE", "BAD", "FULL", "STATE").contains(told);
        String want = isName ? "String.valueOf(StateMoves." + told + ")" : "\"" + told + "\"";
        String shown = call.replace("\"", "'");
        CALLS.append("out.add(new String[] {\"" + shown + "\", String.valueOf(" + call + "), " + want + "});\n");
        CALLED.add(call.replaceAll("^[xy]\\.", "").replaceAll("\\(.*", ""));
    }

    private static List<String[]> compiled() throws Exception {
        Path home = Files.createTempDirectory("readme");
        try {
            Path file = home.resolve(CLASS + ".java");
            Files.writeString(file, "public class " + CLASS + " implements java.util.function.Supplier<Object> {\n"
                    + "public Object get() {\njava.util.List<String[]> out = new java.util.ArrayList<>();\n"
                    + CALLS + "return out;\n}\n" + FUNCTIONS + "}\n");
            JavaCompiler compiler = ToolProvider.getSystemJavaCompiler();
            String path = System.getProperty("java.class.path");
            int code = compiler == null ? 1
                    : compiler.run(null, null, null, "-cp", path, "-d", home.toString(), file.toString());
            DUE.is("README.md's Java compiles: exit code", code, 0);
            return code == 0 ? run(home) : List.of();
        } finally {
            clear(home);
        }
    }

    private static List<String[]> run(Path home) throws Exception {
        List<String[]> rows = new ArrayList<>();
        try (URLClassLoader loader = new URLClassLoader(new URL[] {home.toUri().toURL()})) {
            Object made = loader.loadClass(CLASS).getDeclaredConstructor().newInstance();
            if (made instanceof Supplier<?> calls && calls.get() instanceof List<?> told) {
                told.forEach(row -> rows.add((String[]) row));
            }
        }
        return rows;
    }

    private static void clear(Path home) throws IOException {
        try (Stream<Path> files = Files.list(home)) {
            for (Path file : files.toList()) {
                Files.delete(file);
            }
        }
        Files.delete(home);
    }

    private static void answers(List<String[]> rows) {
        DUE.holds("calls were found", rows.size() > 60);
        for (String[] row : rows) {
            DUE.same("README.md: " + row[0], row[1] + "\n", row[2] + "\n");
        }
    }

    /** The text of RULES that is shown, without the words at its right, does what these words say. */
    private static void rulesTold(String shown) {
        String text = shown.replaceAll("(?m)(?<=\\S) {2,}\\S.*$", "");
        StateMoves x = new StateMoves();
        Due.type(x, 0, "item", "n:4 row:2[] mark:5");
        Due.type(x, 0, "junk", "");
        Due.type(x, 0, "same", "a:4");
        Due.type(x, 1, "thing", "count:4 last:4 old:6 mark:5 row:5[]");
        Due.type(x, 1, "same", "a:5");
        x.value(7, 0);
        x.set(7, 0, 100);
        x.add(7, 1, 5);
        x.add(7, 1, -6);
        x.set(7, 2, 3);
        x.value(8, 1);
        x.value(9, 2);
        x.set(9, 0, -1);
        DUE.is("README.md's RULES: " + text, Due.rules(x, 0, 1, text), 2);
        DUE.is("carry(1)", x.carry(1), 2);
        DUE.same("README.md's RULES", Due.picture(x), "BUILD 1, VALUES 2\n9 of 1 [ -1 ]\n"
                + "70 of 0 [ 102 ] [ -6 ] [ " + Float.floatToIntBits(3) + " ] [ 0 ] [ 5 -6 ]\n");
        DUE.is("lost(0)", x.lost(0), 0);
        DUE.is("lost(1)", x.lost(1), 1);
        DUE.is("2.0 as an INT", carriedAsInt(2.0), 1);
        DUE.is("2.5 as an INT", carriedAsInt(2.5), StateMoves.NONE);
    }

    private static int carriedAsInt(double number) {
        StateMoves x = new StateMoves();
        Due.type(x, 0, "a", "d:7");
        Due.type(x, 1, "a", "d:4");
        x.value(1, 0);
        x.set(1, 0, Double.doubleToLongBits(number));
        x.rules(0, 1);
        return x.carry(1);
    }

    private static void everyCall(String text) {
        for (Method method : StateMoves.class.getDeclaredMethods()) {
            if (Modifier.isPublic(method.getModifiers())) {
                DUE.holds("a run calls " + method.getName(), CALLED.contains(method.getName()));
                DUE.holds("the table has " + method.getName(), text.contains("\n| `" + method.getName() + "("));
            }
        }
    }

    private static void everyTest(String text) throws IOException {
        Set<String> tests = new TreeSet<>();
        try (Stream<Path> files = Files.list(Path.of("src/test/java"))) {
            files.map(file -> file.getFileName().toString()).filter(name -> name.endsWith("Test.java"))
                    .forEach(name -> tests.add(name.replace(".java", "")));
        }
        Set<String> told = new TreeSet<>();
        Matcher row = Pattern.compile("(?m)^\\| `(\\w+Test)` \\|").matcher(text);
        while (row.find()) {
            told.add(row.group(1));
        }
        DUE.same("the table of tests", told + "\n", tests + "\n");
    }
}
