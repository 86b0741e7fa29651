import java.lang.management.ManagementFactory;
import java.util.Random;

/** Any arguments in any state, far beyond 512 calls: no call throws, and no call makes anything. */
public final class StressTest {
    private static final Checks C = new Checks();
    private static final int OBJECTS = 120, CALLS = 4000;
    private static final int[] EDGES = {Integer.MIN_VALUE, Integer.MIN_VALUE + 1, -1000, -2, -1, 0, 1, 2, 3, 7, 8, 11, 12, 13, 14,
        25, 26, 29, 30, 39, 40, 41, 79, 80, 81, 99, 100, 511, 512, 999, 2000, 2001, 32768, 1 << 30, Integer.MAX_VALUE - 1,
        Integer.MAX_VALUE};

    private final Random random;
    private final PenLines x = new PenLines();
    private final boolean wild;

    private StressTest(long seed) {
        random = new Random(seed);
        wild = seed % 3 == 0;
    }

    public static void main(String[] args) {
        for (int seed = 0; seed < OBJECTS; seed++) {
            StressTest test = new StressTest(seed);
            C.due("calls of object " + seed + " that throw", test.run(), 0);
        }
        manyForms();
        manyTeachings();
        madeByCalls();
        C.end("StressTest");
    }

    private int run() {
        int thrown = 0;
        for (int k = 0; k < CALLS; k++) {
            try {
                call(random.nextInt(29));
            } catch (RuntimeException e) {
                thrown++;
                e.printStackTrace(System.out);
            }
        }
        return thrown;
    }

    private int v(int to) {
        return wild || random.nextInt(20) == 0 ? EDGES[random.nextInt(EDGES.length)] : random.nextInt(to);
    }

    private int call(int which) {
        switch (which) {
            case 0: return x.sheet(v(3), v(3), v(81));
            case 1: return x.set(v(3), v(80), v(15));
            case 2: return x.copy(v(3), v(40), v(3), v(40), v(40));
            case 3: return x.drop(v(60));
            case 4: return x.line(v(3), v(4), 1 + v(40));
            case 5: return x.gap(1 + v(20));
            case 6: return x.ink(v(3), v(3));
            case 7: return x.piece(v(3), v(5), v(3));
            case 8: return x.loose();
            case 9: return x.form(v(26), 1 + v(3), v(12), v(12), v(12), 1 + v(20));
            case 10: return x.seen(v(26), 1 + v(3), v(12), v(12), v(12));
            case 11: return x.pair(v(26), v(26), 1 + v(20));
            case 12: return x.letter(v(26));
            case 13: return x.list();
            case 14: return x.wipe();
            case 15: return x.listed(v(3), v(3), v(2));
            case 16: return x.open(v(3), v(5), v(14) - 2);
            case 17: return x.find(v(3));
            case 18: return x.teach(v(3));
            case 19: return random.nextInt(6) == 0 ? x.unteach() : 0;
            case 20: return x.kind(v(3));
            case 21: return x.as(v(3), v(4));
            case 22: return x.ask(v(3), v(2));
            case 23: return x.trace(v(16));
            case 24: return x.count(v(8));
            case 25: return x.status();
            case 26: return Checks.writeShapes(x, new int[1 + random.nextInt(16)]);
            case 27: return x.form(v(3), 1 + v(3), 0, 0, 0, 1 + v(20));
            default: Checks.spell(x, random.nextInt(3), random.nextInt(3)); return x.teach(0);
        }
    }

    private static void manyForms() {
        PenLines x = new PenLines();
        int told = 0;
        for (int k = 0; k < 1884 && told <= 600; k++, told++) {
            int got = x.form(k % 26, 3, k % 12, k / 12 % 12, k / 144 % 12, 1);
            if (k < 512) {
                C.due("form " + k, got, 1);
            }
        }
        C.isTrue("they are kept", x.count(3) >= 512);
        C.due("the first one, too", x.seen(0, 3, 0, 0, 0), 1);
    }

    private static void manyTeachings() {
        PenLines x = new PenLines();
        Checks.writeShapes(x, new int[12]);
        x.form(0, 1, 0, 0, 0, 1);
        for (int k = 0; k < 60; k++) {
            Checks.spell(x, 0, 0, 0, 0, 0, 0, 0, 0, 0, 0, 0, 0);
            x.teach(0);
        }
        C.due("twelve each", x.seen(0, 1, 0, 0, 0), 601);
        for (int k = 0; k < 3000; k++) {
            x.pair(3, 4, 1);
        }
        for (int k = 49; k >= 0; k--) {
            C.due("untaught", x.unteach(), k);
        }
    }

    /** Of the thread, so that nothing else counts; some bytes are left to the measuring itself. */
    private static void madeByCalls() {
        com.sun.management.ThreadMXBean bean = (com.sun.management.ThreadMXBean) ManagementFactory.getThreadMXBean();
        StressTest test = new StressTest(1);
        long before = bean.getCurrentThreadAllocatedBytes();
        new PenLines();
        long ofOne = bean.getCurrentThreadAllocatedBytes() - before;
        C.isTrue("an object is of " + ofOne + " bytes", ofOne < 150000);
        before = bean.getCurrentThreadAllocatedBytes();
        for (int k = 0; k < CALLS; k++) {
            test.call(k % 26);
        }
        long ofCalls = bean.getCurrentThreadAllocatedBytes() - before;
        C.isTrue(CALLS + " calls make " + ofCalls + " bytes", ofCalls < 20000);
    }
}
