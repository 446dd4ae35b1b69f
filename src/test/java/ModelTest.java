import java.util.ArrayList;
import java.util.Arrays;
import java.util.List;
import java.util.Random;

/** Runs of calls by chance, of fixed seeds: every answer of the class is held against the model's. */
public final class ModelTest {
    private static final int RUNS = 9000;
    /** An object has 512 calls, and the longest text takes some forty of them. */
    private static final int CALLS = 460;
    private static final String[] TYPE_NAMES = {"a", "b", "c", "pa", "pb", "longname"};
    private static final String[] MEMBER_NAMES = {"x", "y", "z", "r", "s", "f", "g", "xy", "yyyyyyyy"};
    private static final long[] SOME = {0, 1, -1, 2, 3, 7, 100, 127, 128, -128, -129, 32767, 65535, 65536, 1L << 24,
        (1L << 24) + 1, 1L << 31, Integer.MIN_VALUE, Integer.MAX_VALUE, 1L << 53, (1L << 53) + 1, Long.MAX_VALUE,
        Long.MIN_VALUE, 0x7FC00000L, 0x7F800000L, 0x3F800000L, 0x40000000L, 0x7FF8000000000000L,
        0x7FF0000000000000L, 0x3FF0000000000000L, 0x4000000000000000L, 0x3FE0000000000000L, 0x3FB999999999999AL,
        0x43E0000000000000L, 0xC3E0000000000000L, 0x36A0000000000000L, 0x3690000000000000L};

    private final Random random;
    private final StateMoves x = new StateMoves();
    private final Model model = new Model();
    private final List<List<Shape>> shapes = new ArrayList<>();
    private final StringBuilder trace = new StringBuilder();
    private final int[] seen;
    private final int span;
    private int calls;
    private int wrong;

    private record Field(String name, int type, boolean rows) { }

    private record Shape(String name, List<Field> fields) { }

    private ModelTest(long seed, int[] seen) {
        random = new Random(seed);
        this.seen = seen;
        span = 2 + random.nextInt(3);
        for (int i = 0; i < 8; i++) {
            shapes.add(new ArrayList<>());
        }
    }

    public static void main(String[] args) {
        int wrong = 0;
        int calls = 0;
        int[] seen = new int[12];
        for (int seed = 0; seed < RUNS && wrong < 5; seed++) {
            ModelTest run = new ModelTest(seed, seen);
            run.go();
            calls += run.calls;
            wrong += run.wrong;
        }
        for (int i = 0; i < seen.length; i++) {
            if (seen[i] < 100) {
                System.out.println("ModelTest: kind " + i + " of answers was seen " + seen[i] + " times alone");
                wrong++;
            }
        }
        System.out.println("ModelTest: kinds of answers " + Arrays.toString(seen));
        System.out.println("ModelTest: " + calls + " calls in " + RUNS + " runs, " + wrong + " not as due");
        if (wrong != 0) {
            System.exit(1);
        }
    }

    private void due(String call, long got, long want) {
        calls++;
        trace.append(call).append(" -> ").append(got).append('\n');
        if (got != want) {
            wrong++;
            System.out.println(trace + "ModelTest: the last one answered so, due is " + want);
        }
    }

    private void go() {
        for (int build = 0; build < span; build++) {
            int types = 1 + random.nextInt(3);
            for (int i = 0; i < types; i++) {
                addType(build);
                int members = random.nextInt(7);
                for (int m = 0; m < members; m++) {
                    addMember(build, shapes.get(build).size() - 1);
                }
            }
        }
        while (calls < CALLS && wrong == 0) {
            oneCall();
        }
    }

    private void oneCall() {
        int choice = random.nextInt(100);
        if (choice < 2) {
            addType(build());
        } else if (choice < 4) {
            addMember(build(), random.nextInt(7) - 1);
        } else if (choice < 6) {
            int build = build();
            due("begin(" + build + ")", x.begin(build), model.begin(build));
        } else if (choice < 20) {
            long key = key();
            int cls = random.nextInt(4) - (random.nextInt(20) == 0 ? 1 : 0);
            due("value(" + key + ", " + cls + ")", x.value(key, cls), model.value(key, cls));
        } else if (choice < 50) {
            write();
        } else if (choice < 58) {
            giveRules();
        } else if (choice < 59) {
            int from = build();
            int to = build();
            due("forget(" + from + ", " + to + ")", x.forget(from, to) ? 1 : 0, model.forget(from, to) ? 1 : 0);
        } else if (choice < 61) {
            int how = random.nextInt(5) - 1;
            due("unknown(" + how + ")", x.unknown(how), model.unknown(how));
        } else if (choice < 75) {
            travel();
        } else {
            look();
        }
    }

    private int build() {
        return random.nextInt(30) == 0 ? random.nextInt(12) - 2 : random.nextInt(span);
    }

    private long key() {
        return random.nextInt(20) == 0 ? SOME[random.nextInt(SOME.length)] : random.nextInt(8) - 3;
    }

    private long bits() {
        return switch (random.nextInt(4)) {
            case 0 -> SOME[random.nextInt(SOME.length)];
            case 1 -> random.nextInt(20) - 5;
            case 2 -> Double.doubleToLongBits(random.nextInt(9) - 3);
            default -> Float.floatToIntBits((random.nextInt(9) - 3) / 2f);
        };
    }

    private void addType(int build) {
        String name = TYPE_NAMES[random.nextInt(TYPE_NAMES.length)];
        long told = random.nextInt(30) == 0 ? bits() : Due.name(name);
        int got = x.type(build, told);
        due("type(" + build + ", " + told + ")", got, model.type(build, told));
        if (got >= 0) {
            shapes.get(build).add(new Shape(name, new ArrayList<>()));
        }
    }

    private void addMember(int build, int cls) {
        String name = MEMBER_NAMES[random.nextInt(MEMBER_NAMES.length)];
        long told = random.nextInt(30) == 0 ? bits() : Due.name(name);
        int type = random.nextInt(30) == 0 ? random.nextInt(12) - 2 : random.nextInt(8);
        boolean rows = random.nextInt(3) == 0;
        int got = x.member(build, cls, told, type, rows);
        due("member(" + build + ", " + cls + ", " + told + ", " + type + ", " + rows + ")", got,
                model.member(build, cls, told, type, rows));
        if (got >= 0) {
            shapes.get(build).get(cls).fields.add(new Field(name, type, rows));
        }
    }

    private void write() {
        long key = random.nextInt(10) == 0 || model.told(1) == 0 ? key() : model.key(random.nextInt(model.told(1)));
        int member = random.nextInt(8) - (random.nextInt(30) == 0 ? 1 : 0);
        long bits = bits();
        String rest = "(" + key + ", " + member + ", " + bits + ")";
        if (random.nextBoolean()) {
            due("set" + rest, x.set(key, member, bits), model.set(key, member, bits));
        } else {
            due("add" + rest, x.add(key, member, bits), model.add(key, member, bits));
        }
    }

    private void travel() {
        int build = build();
        int got;
        if (random.nextInt(3) == 0) {
            got = x.carry(build);
            due("carry(" + build + ")", got, model.carry(build));
        } else {
            got = x.dry(build);
            due("dry(" + build + ")", got, model.dry(build));
        }
        for (int what = 0; what < 4; what++) {
            due("refused(" + what + ")", x.refused(what), model.refused(what));
        }
        due("refusedKey(false)", x.refusedKey(false), model.refusedKey(false));
        due("refusedKey(true)", x.refusedKey(true), model.refusedKey(true));
        due("lost(0)", x.lost(0), model.lost(0));
        due("lost(1)", x.lost(1), model.lost(1));
        if (got == StateMoves.NONE) {
            seen[model.refused(0)]++;
            seen[7] += model.refused(3) > 0 ? 1 : 0;
        } else if (got > 0) {
            seen[0]++;
            seen[8] += model.lost(0) > 0 ? 1 : 0;
            seen[9] += model.lost(1) > 0 ? 1 : 0;
        }
    }

    private void look() {
        int i = random.nextInt(12) - 1;
        due("key(" + i + ")", x.key(i), model.key(i));
        long key = random.nextInt(5) == 0 ? key() : model.key(random.nextInt(8));
        due("classOf(" + key + ")", x.classOf(key), model.classOf(key));
        int member = random.nextInt(10) - 1;
        due("many(" + key + ", " + member + ")", x.many(key, member), model.many(key, member));
        int k = random.nextInt(4) == 0 ? random.nextInt(10) - 1 : 0;
        due("bits(" + key + ", " + member + ", " + k + ")", x.bits(key, member, k), model.bits(key, member, k));
        int what = random.nextInt(7) - 2;
        due("told(" + what + ")", x.told(what), model.told(what));
        due("lost(" + what + ")", x.lost(what), model.lost(what));
        due("refused(" + what + ")", x.refused(what), model.refused(what));
    }

    private void giveRules() {
        int from = build();
        int to = random.nextInt(8) == 0 ? build() : from + (random.nextInt(3) > 0 ? 1 : -1);
        String text = random.nextInt(8) == 0 ? "" : text(from, to);
        if (random.nextInt(4) == 0 && !text.isEmpty()) {
            text = spoiled(text);
        }
        for (int i = 0; i < text.length(); i += 16) {
            int n = Math.min(16, text.length() - i);
            long a = Due.half(text, i);
            long b = Due.half(text, i + 8);
            due("feed(" + a + ", " + b + ", " + n + ")", x.feed(a, b, n), model.feed(a, b, n));
        }
        trace.append("«").append(text).append("»\n");
        int got = x.rules(from, to);
        due("rules(" + from + ", " + to + ")", got, model.rules(from, to));
        seen[got > 0 ? 10 : 11]++;
    }

    private String spoiled(String text) {
        String[] bits = {" ", "(", ")", "[", "]", "-", "#", ";", "=", "}", "key", " drop x;", "x", "9", "\n", "!", "to"};
        int at = random.nextInt(text.length());
        String put = bits[random.nextInt(bits.length)];
        int cut = random.nextInt(3);
        return text.substring(0, at) + (random.nextBoolean() ? put : "") + text.substring(Math.min(text.length(), at + cut));
    }

    private List<Shape> shapesOf(int build) {
        return build < 0 || build > 7 ? List.of() : shapes.get(build);
    }

    private String text(int from, int to) {
        StringBuilder text = new StringBuilder();
        List<Shape> first = shapesOf(from);
        List<Shape> second = shapesOf(to);
        for (Shape shape : first) {
            int choice = random.nextInt(8);
            if (choice == 0) {
                text.append("drop ").append(shape.name).append(random.nextBoolean() ? ";" : " ;\n");
            } else if (choice < 6 && !second.isEmpty()) {
                Shape target = second.get(random.nextInt(second.size()));
                text.append("move ").append(shape.name).append(" to ").append(target.name).append(" {");
                addRules(text, shape, target);
                text.append("}\n");
            }
        }
        return text.length() > 600 ? text.substring(0, 600) : text.toString();
    }

    private void addRules(StringBuilder text, Shape from, Shape to) {
        if (random.nextInt(4) == 0) {
            text.append("key=").append(random.nextBoolean() ? "key+" : "").append(sum(from, 0)).append(';');
        }
        for (Field field : to.fields) {
            if (random.nextInt(3) == 0) {
                boolean plain = field.rows ? random.nextInt(20) != 0 : random.nextInt(3) == 0;
                String work = plain ? pick(from, field.rows) : sum(from, 0);
                text.append(field.name).append(random.nextBoolean() ? "=" : " = ").append(work).append(';');
            }
        }
        for (Field field : from.fields) {
            if (random.nextInt(8) == 0) {
                text.append("drop ").append(field.name).append(';');
            }
        }
    }

    private String pick(Shape from, boolean rows) {
        List<String> names = new ArrayList<>();
        for (Field field : from.fields) {
            if (field.rows == rows) {
                names.add(field.name);
            }
        }
        if (names.isEmpty() || random.nextInt(40) == 0) {
            return MEMBER_NAMES[random.nextInt(MEMBER_NAMES.length)];
        }
        return names.get(random.nextInt(names.size()));
    }

    private String sum(Shape from, int depth) {
        StringBuilder text = new StringBuilder(factor(from, depth));
        int more = random.nextInt(3);
        for (int i = 0; i < more; i++) {
            text.append("+-*/%+-*".charAt(random.nextInt(8))).append(factor(from, depth));
        }
        return text.toString();
    }

    private String factor(Shape from, int depth) {
        int choice = random.nextInt(depth > 3 ? 5 : 9);
        if (choice == 0) {
            return "key";
        }
        if (choice >= 5 && choice < 7) {
            return choice == 5 ? "-" + factor(from, depth + 1) : "(" + sum(from, depth + 1) + ")";
        }
        if (choice > 1 && !from.fields.isEmpty()) {
            Field field = from.fields.get(random.nextInt(from.fields.size()));
            if (field.rows && random.nextBoolean()) {
                return "#" + field.name;
            }
            if (field.type < 6 || random.nextInt(60) == 0) {
                String index = depth > 3 || random.nextBoolean() ? "" + random.nextInt(2) : sum(from, depth + 1);
                return field.rows ? field.name + "[" + index + "]" : field.name;
            }
        }
        return random.nextInt(6) == 0 ? "2147483647*2147483647*2" : "" + random.nextInt(12);
    }
}
