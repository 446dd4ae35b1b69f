import java.lang.reflect.Constructor;
import java.lang.reflect.Field;
import java.lang.reflect.Method;
import java.lang.reflect.Modifier;
import java.nio.file.Files;
import java.nio.file.Path;
import java.util.Set;
import java.util.TreeSet;
import java.util.regex.Matcher;
import java.util.regex.Pattern;

/** The public face, and the rules of LANGUAGE.md that can be seen in the source's text or by reflection. */
public final class FaceTest {
    private static final Due DUE = new Due("FaceTest");

    private static final Set<String> FACE = Set.of(
            "int type(int, long)", "int member(int, int, long, int, boolean)", "int begin(int)",
            "int value(long, int)", "int set(long, int, long)", "int add(long, int, long)",
            "int feed(long, long, int)", "int rules(int, int)", "boolean forget(int, int)",
            "int unknown(int)", "int carry(int)", "int dry(int)", "int refused(int)",
            "long refusedKey(boolean)", "int lost(int)", "int told(int)", "long key(int)",
            "int classOf(long)", "int many(long, int)", "long bits(long, int, int)");

    /** Of Integer, Long and Math all functions over int and long are allowed, but for those that end in Exact. */
    private static final Set<String> LIBRARY = Set.of(
            "Arrays.fill", "Arrays.copyOf", "Arrays.copyOfRange", "System.arraycopy", "List.of");

    private static final Set<String> IMPORTS = Set.of(
            "java.util.Arrays", "java.util.ArrayList", "java.util.List", "java.util.Iterator");

    private static final Pattern METHOD = Pattern.compile("( {4}| {8})[A-Za-z][^=;]*\\([^=;]*\\) \\{");

    public static void main(String[] args) throws Exception {
        constants();
        members();
        nested();
        source(Files.readString(Path.of("src/main/java/StateMoves.java")));
        DUE.end();
    }

    private static void constants() {
        DUE.is("NONE", StateMoves.NONE, -1);
        DUE.is("BAD", StateMoves.BAD, -2);
        DUE.is("FULL", StateMoves.FULL, -3);
        DUE.is("STATE", StateMoves.STATE, -4);
    }

    private static void members() {
        DUE.holds("the class is public and final", StateMoves.class.getModifiers() == (Modifier.PUBLIC | Modifier.FINAL));
        Set<String> seen = new TreeSet<>();
        Set<String> publicNames = new TreeSet<>();
        for (Method method : StateMoves.class.getDeclaredMethods()) {
            if (!Modifier.isPrivate(method.getModifiers())) {
                seen.add(shape(method));
                publicNames.add(method.getName());
                DUE.is(method + " modifiers", method.getModifiers(), Modifier.PUBLIC);
            }
        }
        DUE.holds("the methods are those of the document: " + seen, seen.equals(FACE));
        for (Class<?> one : StateMoves.class.getDeclaredClasses()) {
            for (Method method : one.getDeclaredMethods()) {
                DUE.holds(method + " has a name of its own", !publicNames.contains(method.getName()));
            }
        }
        for (Method method : StateMoves.class.getDeclaredMethods()) {
            boolean isPrivate = Modifier.isPrivate(method.getModifiers());
            DUE.holds(method + " has a name of its own", !isPrivate || !publicNames.contains(method.getName()));
        }
        Constructor<?>[] constructors = StateMoves.class.getDeclaredConstructors();
        DUE.is("constructors", constructors.length, 1);
        DUE.is("the constructor's modifiers", constructors[0].getModifiers(), Modifier.PUBLIC);
        DUE.is("the constructor's parameters", constructors[0].getParameterCount(), 0);
        Set<String> constants = Set.of("NONE", "BAD", "FULL", "STATE");
        for (Field field : StateMoves.class.getDeclaredFields()) {
            boolean isPrivate = Modifier.isPrivate(field.getModifiers());
            DUE.holds(field + " is private or of the face", isPrivate != constants.contains(field.getName()));
        }
        fields(StateMoves.class);
    }

    private static String shape(Method method) {
        StringBuilder told = new StringBuilder(method.getReturnType() + " " + method.getName() + "(");
        for (Class<?> parameter : method.getParameterTypes()) {
            told.append(told.charAt(told.length() - 1) == '(' ? "" : ", ").append(parameter);
        }
        return told.append(')').toString();
    }

    private static void nested() {
        Class<?>[] inside = StateMoves.class.getDeclaredClasses();
        DUE.holds("at most twelve classes", inside.length + 1 <= 12);
        for (Class<?> one : inside) {
            DUE.holds(one + " is static", Modifier.isStatic(one.getModifiers()));
            DUE.holds(one + " is not public", !Modifier.isPublic(one.getModifiers()));
            fields(one);
            for (Method method : one.getDeclaredMethods()) {
                DUE.holds(method + " has at most seven parameters", method.getParameterCount() <= 7);
            }
        }
    }

    private static void fields(Class<?> one) {
        int fields = 0;
        for (Field field : one.getDeclaredFields()) {
            boolean isStatic = Modifier.isStatic(field.getModifiers());
            fields += isStatic ? 0 : 1;
            DUE.holds(field + " is final if static", !isStatic || Modifier.isFinal(field.getModifiers()));
        }
        DUE.holds(one + " has at most twenty fields", fields <= 20);
    }

    private static void source(String text) {
        String code = text.replaceAll("(?s)/\\*.*?\\*/", " ").replaceAll("//[^\n]*", " ");
        String[] banned = {
            "throw", "throws", "try", "catch", "synchronized", "assert", "package", "native", "volatile", "Object",
            "Thread", "Random", "hashCode", "Throwable", "Exception",
        };
        for (String word : banned) {
            DUE.holds("no " + word, !Pattern.compile("\\b" + word + "\\b").matcher(code).find());
        }
        DUE.holds("no function whose name ends in Exact", !Pattern.compile("Exact\\b").matcher(code).find());
        DUE.holds("no method reference", !code.contains("::"));
        DUE.holds("no lambda", !code.replaceAll("(case [^;{}]*?|default)\\s*->", " ").contains("->"));
        DUE.holds("no static initialiser block", !Pattern.compile("static\\s*\\{").matcher(code).find());
        Matcher imports = Pattern.compile("import\\s+([^;]+);").matcher(code);
        while (imports.find()) {
            DUE.holds("import " + imports.group(1), IMPORTS.contains(imports.group(1)));
        }
        Matcher calls = Pattern.compile("\\b(Arrays|System|List|Character|String|Objects|Double|Float)\\.(\\w+)").matcher(code);
        while (calls.find()) {
            DUE.holds("library: " + calls.group(), LIBRARY.contains(calls.group()));
        }
        DUE.holds("characters 0 to 255 alone", text.chars().allMatch(c -> c <= 255));
        shortMethods(text.split("\n"));
    }

    /** The methods stand in by four (of the class) or eight (of a class inside), and end so. */
    private static void shortMethods(String[] lines) {
        int methods = 0;
        for (int i = 0; i < lines.length; i++) {
            Matcher head = METHOD.matcher(lines[i]);
            if (head.matches()) {
                int end = i;
                while (end < lines.length && !lines[end].equals(head.group(1) + "}")) {
                    end++;
                }
                methods++;
                DUE.holds(lines[i].trim() + " has some sixty lines at most", end - i + 1 <= 60);
            }
        }
        DUE.holds("methods were found: " + methods, methods > FACE.size());
    }
}
