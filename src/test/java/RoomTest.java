import java.lang.management.ManagementFactory;
import java.util.Random;

/** What a run makes stays far below the room that it has: rows are made once and used again. */
public final class RoomTest {
    private static final Due DUE = new Due("RoomTest");
    /** 7.3 million elements of 8 bytes each are the room; a run of the dearest calls may take a fiftieth of it. */
    private static final long MOST = 7_300_000L * 8 / 50;

    public static void main(String[] args) {
        // Once ahead: classes are loaded.
        run(new PolyWork());
        long before = made();
        run(new PolyWork());
        long whole = made() - before;
        before = made();
        for (int k = 0; k < 100; k++) {
            new PolyWork().variable(0);
        }
        long few = (made() - before) / 100;
        DUE.is("a run of dear calls made " + whole + " bytes", whole <= MOST, true);
        DUE.is("a new object made " + few + " bytes", few <= 40_000, true);
        DUE.end();
    }

    private static long made() {
        if (ManagementFactory.getThreadMXBean() instanceof com.sun.management.ThreadMXBean bean) {
            return bean.getThreadAllocatedBytes(Thread.currentThread().getId());
        }
        return 0;
    }

    private static void run(PolyWork w) {
        Random random = new Random(1);
        w.prime(65521);
        w.constant(1);
        w.constant(0);
        for (int k = 0; k < 120; k++) {
            int a = w.plus(k % 2, random.nextInt(65521), k % 41, k < 80 ? 0 : k % 7);
            w.drop(k % 2);
            if (a > 1) {
                w.drop(a);
            }
        }
        w.variable(0);
        int wide = w.constant(1);
        for (int k = 0; k < 30; k++) {
            int next = w.plus(wide, random.nextInt(65521), k % 7, 6 - k % 5);
            w.drop(wide);
            wide = next;
        }
        int line = w.variable(0);
        int plain = line;
        for (int k = 0; k < 39; k++) {
            int next = w.apply(2, plain, w.plus(line, k * 1001 + 1, 0, 0));
            plain = next;
        }
        for (int k = 0; k < 50; k++) {
            w.factor(plain);
            w.apply(12, wide, wide);
            w.apply(11, plain, plain);
            w.apply(13, plain, plain);
            w.power(line, Long.MAX_VALUE, plain);
        }
    }
}
