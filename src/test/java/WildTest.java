import java.util.Random;

/** Every call with arguments of any kind, in states of any kind: none throws, and within 512 calls the bounds hold. */
public final class WildTest {
    private static final Due DUE = new Due("WildTest");
    private static final int RUNS = 2000;
    private static final int[] EDGES = {0, 1, -1, 2, 3, 5, 6, 7, 8, 9, 59, 60, Integer.MAX_VALUE, Integer.MIN_VALUE};
    private static final String SIGNS = "{}()[];=+-*/%# \nabxyr019key move drop to ";

    private final Random random;
    private final StateMoves x = new StateMoves();
    private int calls;

    private WildTest(int seed) {
        random = new Random(seed);
    }

    public static void main(String[] args) {
        for (int seed = 0; seed < RUNS; seed++) {
            new WildTest(seed).go();
        }
        DUE.end();
    }

    private void go() {
        for (int build = 0; build < 3; build++) {
            Due.type(x, build, "a", "x:4 y:7 r:5[] a:6[]");
            Due.type(x, build, "b", "x:5");
        }
        // The bounds take some calls more; one round of calls has 47 at most.
        while (calls < 400) {
            call(random.nextInt(22));
        }
        holdBounds();
        // Behind the 512th call the answers are free, but still none may throw.
        for (int i = 0; i < 200; i++) {
            call(random.nextInt(22));
        }
    }

    private void holdBounds() {
        DUE.holds("a BUILD", x.told(0) >= 0 && x.told(0) < 8);
        DUE.holds("VALUES", x.told(1) >= 0 && x.told(1) <= 60);
        DUE.holds("RULES", x.told(2) >= 0 && x.told(2) <= 56);
        long last = x.key(0);
        for (int i = 1; i < Math.min(x.told(1), 20); i++) {
            long key = x.key(i);
            DUE.holds("by KEYS", last < key);
            last = key;
        }
    }

    private int any() {
        return random.nextInt(3) == 0 ? EDGES[random.nextInt(EDGES.length)] : random.nextInt(4);
    }

    private long bits() {
        return switch (random.nextInt(4)) {
            case 0 -> random.nextLong();
            case 1 -> EDGES[random.nextInt(EDGES.length)];
            case 2 -> 'a' + random.nextInt(30);
            default -> Long.MIN_VALUE >> random.nextInt(64);
        };
    }

    private long signs() {
        long told = 0;
        for (int i = 0; i < 8; i++) {
            told = told << 8 | SIGNS.charAt(random.nextInt(SIGNS.length()));
        }
        return told;
    }

    private void call(int which) {
        calls += which > 20 ? 47 : 2;
        switch (which) {
            case 0 -> x.type(any(), bits());
            case 1 -> x.member(any(), any(), bits(), any(), random.nextBoolean());
            case 2 -> x.begin(random.nextInt(4) == 0 ? any() : -1);
            case 3 -> x.value(bits(), any());
            case 4 -> x.set(x.key(random.nextInt(5)), any(), bits());
            case 5 -> x.add(x.key(random.nextInt(5)), any(), bits());
            case 6 -> x.feed(signs(), signs(), any());
            case 7 -> x.feed(random.nextLong(), random.nextLong(), random.nextInt(18));
            case 8 -> x.rules(any(), any());
            case 9 -> x.forget(any(), any());
            case 10 -> x.unknown(any());
            case 11 -> x.carry(any());
            case 12 -> x.dry(any());
            case 13 -> x.refused(any());
            case 14 -> x.refusedKey(random.nextBoolean());
            case 15 -> x.lost(any());
            case 16 -> x.told(any());
            case 17 -> x.key(any());
            case 18 -> x.classOf(bits());
            case 19 -> x.many(x.key(random.nextInt(5)), any());
            case 20 -> x.bits(x.key(random.nextInt(5)), any(), any());
            default -> Due.rules(x, random.nextInt(3), random.nextInt(3), "move a to b{x=" + work() + ";key=r[x]*x;}");
        }
    }

    private String work() {
        String[] some = {"x", "x*x", "-x", "x/(x-x)", "x%-1", "r[x]", "#r", "y", "r", "key*key*key", "-".repeat(30) + "x",
            "(".repeat(30), "r[".repeat(30), "1+".repeat(200) + "1", "-".repeat(600)};
        return some[random.nextInt(some.length)];
    }
}
