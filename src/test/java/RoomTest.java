import java.lang.management.ManagementFactory;

/**
 * The room that all calls of one run share: some 600,000 objects and arrays, 7.3 million fields and elements.
 * The machine tells the bytes that were taken. An object has sixteen of them at least and a field or element one,
 * so a run that takes fewer than ROOM bytes has fewer fields and elements, and fewer than ROOM / 16 objects.
 */
public final class RoomTest {
    private static final Due DUE = new Due("RoomTest");
    private static final long ROOM = 7_300_000;
    private static final int CALLS = 510;
    private static final String SUM = "move a to a{a=" + "1+".repeat(340) + "1;}";

    public static void main(String[] args) {
        DUE.holds("sixteen bytes to an object: " + ROOM / 16, ROOM / 16 < 600_000);
        if (taken() < 0) {
            System.out.println("RoomTest: this machine does not tell the bytes that were taken");
        }
        // The first runs pay for what the machine itself takes once.
        for (int round = 0; round < 2; round++) {
            fits("objects of one call each", round, manyObjects());
            fits("RULES of all there may be", round, manyRules());
            fits("WRONG texts", round, manyWrong());
            fits("long texts", round, longTexts());
            fits("carryings of a FULL state", round, manyCarryings());
        }
        DUE.end();
    }

    private static long taken() {
        if (ManagementFactory.getThreadMXBean() instanceof com.sun.management.ThreadMXBean told) {
            return told.isThreadAllocatedMemorySupported() ? told.getCurrentThreadAllocatedBytes() : -1;
        }
        return -1;
    }

    private static void fits(String what, int round, long bytes) {
        if (round > 0) {
            DUE.holds(what + " take " + bytes + " bytes", bytes < ROOM);
        }
    }

    private static long manyObjects() {
        long before = taken();
        int sum = 0;
        for (int i = 0; i < CALLS / 2; i++) {
            sum += new StateMoves().told(0);
        }
        DUE.is("BUILD 0", sum, 0);
        return taken() - before;
    }

    private static int fill(StateMoves x, int build) {
        for (int cls = 0; cls < 6; cls++) {
            x.type(build, 'a' + cls);
            for (int member = 0; member < 8; member++) {
                x.member(build, cls, 'a' + member, 5, true);
            }
        }
        return 54;
    }

    private static long manyRules() {
        long before = taken();
        StateMoves x = new StateMoves();
        int calls = fill(x, 0) + fill(x, 1);
        for (; calls < CALLS; calls++) {
            x.rules(calls % 2, 1 - calls % 2);
        }
        DUE.is("RULES", x.told(2), 2);
        return taken() - before;
    }

    private static long manyWrong() {
        long before = taken();
        StateMoves x = new StateMoves();
        int calls = fill(x, 0) + fill(x, 1);
        for (; calls < CALLS; calls += 2) {
            x.feed(0x64726F7020613B64L, 0x726F7020623B6474L, 16);
            x.rules(0, 1);
        }
        DUE.is("no RULES", x.told(2), 0);
        return taken() - before;
    }

    private static long longTexts() {
        long[] halves = new long[2 * (SUM.length() / 16 + 1)];
        for (int i = 0; i < halves.length; i++) {
            halves[i] = Due.half(SUM, 8 * i);
        }
        long before = taken();
        StateMoves x = new StateMoves();
        for (int build = 0; build < 2; build++) {
            x.type(build, 'a');
            x.member(build, 0, 'a', 5, false);
        }
        for (int calls = 4; calls + halves.length / 2 < CALLS; calls += halves.length / 2 + 1) {
            for (int i = 0; i < halves.length; i += 2) {
                x.feed(halves[i], halves[i + 1], Math.min(16, SUM.length() - 8 * i));
            }
            DUE.is("a long text", x.rules(0, 1), 1);
        }
        return taken() - before;
    }

    private static long manyCarryings() {
        long before = taken();
        StateMoves x = new StateMoves();
        int calls = 0;
        for (int build = 0; build < 8; build++) {
            x.type(build, 'a');
            for (int member = 0; member < 8; member++) {
                x.member(build, 0, 'a' + member, 5, true);
            }
            if (build > 0) {
                x.rules(build - 1, build);
                x.rules(build, build - 1);
            }
            calls += 11;
        }
        for (int key = 0; key < 60; key++) {
            x.value(key, 0);
            x.add(key, key % 8, key);
            calls += 2;
        }
        for (; calls < CALLS; calls++) {
            DUE.is("carry", x.carry(calls % 2 == 0 ? 7 : 0), 60);
        }
        return taken() - before;
    }
}
