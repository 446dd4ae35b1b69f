import java.math.BigInteger;
import java.util.ArrayList;
import java.util.HashMap;
import java.util.HashSet;
import java.util.LinkedHashMap;
import java.util.List;
import java.util.Map;
import java.util.Set;
import java.util.TreeMap;
import java.util.TreeSet;

/** A second reading of the document, with the Java library and its exceptions, to hold the class against. */
final class Model {
    static final int NONE = -1, BAD = -2, FULL = -3, STATE = -4;

    record Member(String name, int type, boolean rows) { }

    record Type(String name, List<Member> members) {
        Member named(String wanted) {
            return members.stream().filter(m -> m.name.equals(wanted)).findFirst().orElse(null);
        }
    }

    record Item(int cls, List<List<Long>> parts) { }

    record Piece(String text, int place) {
        boolean isName() {
            return text.matches("[a-z]{1,8}") && !Set.of("key", "move", "drop", "to").contains(text);
        }

        boolean isNumber() {
            return text.matches("[0-9]+") && new BigInteger(text).bitLength() <= 31;
        }
    }

    /** A piece of an E: a sign or a leaf with its parts. */
    record Node(String sign, Piece piece, List<Node> parts) { }

    record Moving(String target, Map<String, Node> works, Set<String> dropped, Set<String> told) { }

    record Rules(Map<String, Moving> moves) { }

    @SuppressWarnings("serial")
    static final class Wrong extends RuntimeException {
        final int place;

        Wrong(int place) {
            this.place = place;
        }
    }

    @SuppressWarnings("serial")
    static final class Refused extends RuntimeException {
        final int why;
        final int member;

        Refused(int why, int member) {
            this.why = why;
            this.member = member;
        }
    }

    private final List<List<Type>> builds = new ArrayList<>();
    private final Map<Integer, Rules> rules = new HashMap<>();
    private TreeMap<Long, Item> state = new TreeMap<>();
    private int stateBuild;
    private String text = "";
    private int how;
    private long[] refusal;
    private int[] losses = {0, 0};

    Model() {
        for (int i = 0; i < 8; i++) {
            builds.add(new ArrayList<>());
        }
    }

    private static boolean isBuild(int build) {
        return build >= 0 && build <= 7;
    }

    private static String nameOf(long told) {
        StringBuilder name = new StringBuilder();
        for (int shift = 56; shift >= 0; shift -= 8) {
            char letter = (char) (told >>> shift & 0xFF);
            if (letter != 0 || name.length() > 0) {
                name.append(letter);
            }
        }
        return new Piece(name.toString(), 0).isName() ? name.toString() : null;
    }

    private boolean isFixed(int build) {
        boolean ruled = rules.keySet().stream().anyMatch(pair -> pair / 10 == build || pair % 10 == build);
        return ruled || stateBuild == build && !state.isEmpty();
    }

    int type(int build, long name) {
        String told = nameOf(name);
        if (!isBuild(build) || told == null || builds.get(build).stream().anyMatch(t -> t.name.equals(told))) {
            return BAD;
        }
        List<Type> types = builds.get(build);
        if (types.size() == 6) {
            return FULL;
        }
        if (isFixed(build)) {
            return STATE;
        }
        types.add(new Type(told, new ArrayList<>()));
        return types.size() - 1;
    }

    int member(int build, int cls, long name, int type, boolean arrays) {
        String told = nameOf(name);
        if (!isBuild(build) || cls < 0 || cls >= builds.get(build).size() || told == null || type < 0 || type > 7) {
            return BAD;
        }
        Type home = builds.get(build).get(cls);
        if (home.named(told) != null) {
            return BAD;
        }
        if (home.members.size() == 8) {
            return FULL;
        }
        if (isFixed(build)) {
            return STATE;
        }
        home.members.add(new Member(told, type, arrays));
        return home.members.size() - 1;
    }

    int begin(int build) {
        if (!isBuild(build)) {
            return BAD;
        }
        int were = state.size();
        state = new TreeMap<>();
        stateBuild = build;
        return were;
    }

    private static Item blank(int cls, Type type) {
        List<List<Long>> parts = new ArrayList<>();
        for (Member member : type.members) {
            parts.add(new ArrayList<>(member.rows ? List.of() : List.of(0L)));
        }
        return new Item(cls, parts);
    }

    int value(long key, int cls) {
        List<Type> types = builds.get(stateBuild);
        if (cls < 0 || cls >= types.size()) {
            return BAD;
        }
        if (state.containsKey(key)) {
            return STATE;
        }
        if (state.size() == 60) {
            return FULL;
        }
        state.put(key, blank(cls, types.get(cls)));
        return state.size();
    }

    private Member memberOf(long key, int member) {
        Item item = state.get(key);
        if (item == null || member < 0 || member >= item.parts.size()) {
            return null;
        }
        return builds.get(stateBuild).get(item.cls).members.get(member);
    }

    private static boolean isValue(long bits, int type) {
        if (type == 6) {
            return bits == (int) bits && Float.floatToIntBits(Float.intBitsToFloat((int) bits)) == bits;
        }
        if (type == 7) {
            return Double.doubleToLongBits(Double.longBitsToDouble(bits)) == bits;
        }
        return NumbersTest.turned(bits, 5, type) != null;
    }

    int set(long key, int member, long bits) {
        Member told = memberOf(key, member);
        if (told == null || told.rows) {
            return BAD;
        }
        if (!isValue(bits, told.type)) {
            return NONE;
        }
        state.get(key).parts.get(member).set(0, bits);
        return 1;
    }

    int add(long key, int member, long bits) {
        Member told = memberOf(key, member);
        if (told == null || !told.rows) {
            return BAD;
        }
        if (!isValue(bits, told.type)) {
            return NONE;
        }
        List<Long> row = state.get(key).parts.get(member);
        if (row.size() == 8) {
            return FULL;
        }
        row.add(bits);
        return row.size();
    }

    int feed(long a, long b, int n) {
        if (n < 1 || n > 16) {
            return BAD;
        }
        if (text.length() + n > 700) {
            return FULL;
        }
        StringBuilder more = new StringBuilder();
        for (int i = 0; i < 8; i++) {
            more.append((char) (a >>> 56 - 8 * i & 0xFF));
        }
        for (int i = 0; i < 8; i++) {
            more.append((char) (b >>> 56 - 8 * i & 0xFF));
        }
        text += more.substring(0, n);
        return text.length();
    }

    int rules(int from, int to) {
        String read = text;
        text = "";
        if (!isBuild(from) || !isBuild(to) || from == to) {
            return BAD;
        }
        try {
            Rules fresh = new Reading(read, builds.get(from), builds.get(to)).all();
            rules.put(from * 10 + to, fresh);
            return fresh.moves.size();
        } catch (Wrong wrong) {
            return -10 - wrong.place;
        }
    }

    boolean forget(int from, int to) {
        return isBuild(from) && isBuild(to) && rules.remove(from * 10 + to) != null;
    }

    int unknown(int fresh) {
        if (fresh != 0 && fresh != 1) {
            return BAD;
        }
        int was = how;
        how = fresh;
        return was;
    }

    int carry(int build) {
        return go(build, true);
    }

    int dry(int build) {
        return go(build, false);
    }

    int refused(int what) {
        if (what < 0 || what > 3) {
            return BAD;
        }
        return refusal == null ? NONE : (int) refusal[what];
    }

    long refusedKey(boolean second) {
        return refusal == null ? 0 : refusal[second ? 5 : 4];
    }

    int lost(int what) {
        return what == 0 || what == 1 ? losses[what] : BAD;
    }

    int told(int what) {
        return what == 0 ? stateBuild : what == 1 ? state.size() : what == 2 ? rules.size() : BAD;
    }

    long key(int i) {
        List<Long> keys = new ArrayList<>(state.keySet());
        return i < 0 || i >= keys.size() ? 0 : keys.get(i);
    }

    int classOf(long key) {
        return state.containsKey(key) ? state.get(key).cls : NONE;
    }

    int many(long key, int member) {
        return memberOf(key, member) == null ? BAD : state.get(key).parts.get(member).size();
    }

    long bits(long key, int member, int k) {
        if (memberOf(key, member) == null) {
            return 0;
        }
        List<Long> row = state.get(key).parts.get(member);
        return k < 0 || k >= row.size() ? 0 : row.get(k);
    }

    private int go(int build, boolean forGood) {
        if (!isBuild(build) || build == stateBuild) {
            return BAD;
        }
        List<Integer> way = new ArrayList<>();
        if (rules.containsKey(stateBuild * 10 + build)) {
            way.add(stateBuild * 10 + build);
        } else {
            int sense = Integer.signum(build - stateBuild);
            for (int b = stateBuild; b != build; b += sense) {
                way.add(b * 10 + b + sense);
            }
        }
        if (!rules.keySet().containsAll(way)) {
            return STATE;
        }
        int[] tally = {0, 0};
        TreeMap<Long, Item> now = state;
        for (int step = 0; step < way.size(); step++) {
            now = step(now, way.get(step), step, tally);
            if (now == null) {
                return NONE;
            }
        }
        losses = tally;
        if (forGood) {
            state = now;
            stateBuild = build;
        }
        return now.size();
    }

    private TreeMap<Long, Item> step(TreeMap<Long, Item> old, int pair, int step, int[] tally) {
        List<Type> first = builds.get(pair / 10);
        List<Type> second = builds.get(pair % 10);
        TreeMap<Long, Item> fresh = new TreeMap<>();
        TreeMap<Long, List<Long>> came = new TreeMap<>();
        for (Map.Entry<Long, Item> one : old.entrySet()) {
            Item item = one.getValue();
            Type type = first.get(item.cls);
            try {
                Moving moving = rules.get(pair).moves.get(type.name);
                boolean isDropped = moving != null && moving.target == null;
                if (moving == null) {
                    moving = new Moving(type.name, Map.of(), Set.of(), Set.of());
                }
                int target = -1;
                for (int i = 0; i < second.size(); i++) {
                    target = second.get(i).name.equals(moving.target) ? i : target;
                }
                if (target < 0 && !isDropped && how == 0) {
                    throw new Refused(6, NONE);
                }
                if (target < 0) {
                    tally[1]++;
                    continue;
                }
                carryOne(one.getKey(), item, type, moving, target, second.get(target), fresh, came, tally);
            } catch (Refused refused) {
                refusal = new long[] {refused.why, item.cls, refused.member, step, one.getKey(), 0};
                return null;
            }
        }
        for (List<Long> keys : came.values()) {
            if (keys.size() > 1) {
                refusal = new long[] {3, NONE, NONE, step, keys.get(0), keys.get(1)};
                return null;
            }
        }
        return fresh;
    }

    private static void carryOne(long key, Item item, Type type, Moving moving, int target, Type home,
            TreeMap<Long, Item> fresh, TreeMap<Long, List<Long>> came, int[] tally) {
        long newKey = key;
        if (moving.works.containsKey("key")) {
            newKey = work(moving.works.get("key"), key, item, type, NONE);
        }
        Item made = blank(target, home);
        Set<String> went = new HashSet<>();
        for (int m = 0; m < home.members.size(); m++) {
            Member member = home.members.get(m);
            Node node = moving.works.get(member.name);
            Member source = null;
            if (node != null && node.sign.equals("name")) {
                source = type.named(node.piece.text);
            } else if (node != null) {
                Long bits = NumbersTest.turned(work(node, key, item, type, m), 5, member.type);
                if (bits == null) {
                    throw new Refused(1, m);
                }
                made.parts.get(m).set(0, bits);
            } else {
                Member same = type.named(member.name);
                if (same != null && same.rows == member.rows && !moving.dropped.contains(same.name)) {
                    source = same;
                    went.add(same.name);
                }
            }
            if (source != null) {
                made.parts.get(m).clear();
                for (long bits : item.parts.get(type.members.indexOf(source))) {
                    Long turned = NumbersTest.turned(bits, source.type, member.type);
                    if (turned == null) {
                        throw new Refused(1, m);
                    }
                    made.parts.get(m).add(turned);
                }
            }
        }
        for (Member member : type.members) {
            List<Long> row = item.parts.get(type.members.indexOf(member));
            boolean isFirst = member.rows ? row.isEmpty() : row.get(0) == 0;
            boolean isSafe = moving.dropped.contains(member.name) || moving.told.contains(member.name)
                    || went.contains(member.name);
            tally[0] += isFirst || isSafe ? 0 : 1;
        }
        fresh.put(newKey, made);
        came.computeIfAbsent(newKey, k -> new ArrayList<>()).add(key);
    }

    private static long work(Node node, long key, Item item, Type type, int member) {
        BigInteger answer;
        switch (node.sign) {
            case "number":
                return Long.parseLong(node.piece.text);
            case "key":
                return key;
            case "name":
                return item.parts.get(type.members.indexOf(type.named(node.piece.text))).get(0);
            case "#":
                return item.parts.get(type.members.indexOf(type.named(node.piece.text))).size();
            case "[": {
                long index = work(node.parts.get(0), key, item, type, member);
                List<Long> row = item.parts.get(type.members.indexOf(type.named(node.piece.text)));
                if (index < 0 || index >= row.size()) {
                    throw new Refused(5, member);
                }
                return row.get((int) index);
            }
            case "neg":
                answer = BigInteger.valueOf(work(node.parts.get(0), key, item, type, member)).negate();
                break;
            default:
                BigInteger left = BigInteger.valueOf(work(node.parts.get(0), key, item, type, member));
                BigInteger right = BigInteger.valueOf(work(node.parts.get(1), key, item, type, member));
                answer = two(node.sign, left, right, member);
                break;
        }
        if (answer.bitLength() > 63) {
            throw new Refused(2, member);
        }
        return answer.longValue();
    }

    private static BigInteger two(String sign, BigInteger left, BigInteger right, int member) {
        if ("/%".contains(sign) && right.signum() == 0) {
            throw new Refused(4, member);
        }
        return switch (sign) {
            case "+" -> left.add(right);
            case "-" -> left.subtract(right);
            case "*" -> left.multiply(right);
            case "/" -> left.divide(right);
            default -> left.remainder(right);
        };
    }

    /** Reads a text: first all of its pieces, then what they mean. */
    private static final class Reading {
        private final List<Piece> pieces = new ArrayList<>();
        private final List<Type> first;
        private final List<Type> second;
        private final TreeSet<Integer> faults = new TreeSet<>();
        private int at;

        Reading(String text, List<Type> first, List<Type> second) {
            this.first = first;
            this.second = second;
            java.util.regex.Matcher cut = java.util.regex.Pattern.compile("[a-z]+|[0-9]+|[^ \\n]",
                    java.util.regex.Pattern.DOTALL).matcher(text);
            while (cut.find()) {
                pieces.add(new Piece(cut.group(), cut.start()));
            }
            pieces.add(new Piece("", text.length()));
        }

        private Piece now() {
            return pieces.get(at);
        }

        private boolean is(String wanted) {
            return now().text.equals(wanted);
        }

        private Piece take(String wanted) {
            if (!is(wanted)) {
                throw new Wrong(now().place);
            }
            return pieces.get(at++);
        }

        private Piece takeName() {
            if (!now().isName()) {
                throw new Wrong(now().place);
            }
            return pieces.get(at++);
        }

        Rules all() {
            Map<String, Moving> moves = new LinkedHashMap<>();
            while (!is("")) {
                if (is("drop")) {
                    take("drop");
                    Piece name = takeName();
                    take(";");
                    check(typeNamed(first, name) != null && !moves.containsKey(name.text), name);
                    moves.put(name.text, new Moving(null, Map.of(), Set.of(), Set.of()));
                } else {
                    take("move");
                    Piece name = takeName();
                    take("to");
                    Piece target = takeName();
                    take("{");
                    Type from = typeNamed(first, name);
                    Type to = typeNamed(second, target);
                    check(from != null && !moves.containsKey(name.text), name);
                    check(to != null, target);
                    Moving moving = new Moving(target.text, new HashMap<>(), new HashSet<>(), new HashSet<>());
                    moves.put(name.text, moving);
                    while (!is("}")) {
                        rule(moving, from, to);
                    }
                    take("}");
                }
            }
            if (!faults.isEmpty()) {
                throw new Wrong(faults.first());
            }
            return new Rules(moves);
        }

        private void check(boolean holds, Piece piece) {
            if (!holds) {
                faults.add(piece.place);
            }
        }

        private static Type typeNamed(List<Type> types, Piece name) {
            return types.stream().filter(t -> t.name.equals(name.text)).findFirst().orElse(null);
        }

        private void rule(Moving moving, Type from, Type to) {
            if (is("drop")) {
                take("drop");
                Piece name = takeName();
                take(";");
                check(from != null && from.named(name.text) != null && moving.dropped.add(name.text), name);
                return;
            }
            Piece ahead = is("key") ? take("key") : takeName();
            take("=");
            Piece behind = now();
            Node node = sum(0);
            take(";");
            boolean isKey = ahead.text.equals("key");
            Member target = isKey || to == null ? null : to.named(ahead.text);
            check((isKey || target != null) && !moving.works.containsKey(ahead.text), ahead);
            moving.works.put(ahead.text, node);
            boolean isJust = node.sign.equals("name") && behind == node.piece;
            if (isJust && !isKey) {
                Member source = from == null ? null : from.named(node.piece.text);
                check(source != null, node.piece);
                check(source == null || target == null || source.rows == target.rows, behind);
                moving.told.add(node.piece.text);
            } else {
                meaning(node, from, moving);
                check(target == null || !target.rows, behind);
            }
            if (!isKey && node.sign.equals("name") && !isJust) {
                moving.works.put(ahead.text, new Node("+", null, List.of(node, new Node("number", new Piece("0", 0), null))));
            }
        }

        private void meaning(Node node, Type from, Moving moving) {
            if (node.piece != null && !Set.of("number", "key").contains(node.sign)) {
                Member source = from == null ? null : from.named(node.piece.text);
                check(source != null, node.piece);
                if (source != null) {
                    moving.told.add(source.name);
                    check(source.rows != node.sign.equals("name"), node.piece);
                    check(node.sign.equals("#") || source.type < 6, node.piece);
                }
            }
            if (node.parts != null) {
                node.parts.forEach(part -> meaning(part, from, moving));
            }
        }

        private Node sum(int depth) {
            Node left = product(depth);
            while (is("+") || is("-")) {
                String sign = pieces.get(at++).text;
                left = new Node(sign, null, List.of(left, product(depth)));
            }
            return left;
        }

        private Node product(int depth) {
            Node left = factor(depth);
            while (is("*") || is("/") || is("%")) {
                String sign = pieces.get(at++).text;
                left = new Node(sign, null, List.of(left, factor(depth)));
            }
            return left;
        }

        private int deeper(int depth, Piece opener) {
            if (depth == 20) {
                throw new Wrong(opener.place);
            }
            return depth + 1;
        }

        private Node factor(int depth) {
            Piece piece = now();
            if (piece.isNumber()) {
                at++;
                return new Node("number", piece, null);
            }
            if (is("key")) {
                at++;
                return new Node("key", piece, null);
            }
            if (is("#")) {
                at++;
                return new Node("#", takeName(), null);
            }
            if (is("-")) {
                int inside = deeper(depth, take("-"));
                return new Node("neg", null, List.of(factor(inside)));
            }
            if (is("(")) {
                int inside = deeper(depth, take("("));
                Node node = sum(inside);
                take(")");
                return node;
            }
            Piece name = takeName();
            if (!is("[")) {
                return new Node("name", name, null);
            }
            int inside = deeper(depth, take("["));
            Node index = sum(inside);
            take("]");
            return new Node("[", name, List.of(index));
        }
    }
}
