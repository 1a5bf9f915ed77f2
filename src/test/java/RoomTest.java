import java.lang.management.ManagementFactory;

/** A run's calls make no objects after the constructor, so that the room never fills. */
public final class RoomTest {
    private static final int CALLS = 512;
    private static final long MOST_BYTES_MADE = 65536;
    private static long sum = 0;

    public static void main(String[] args) {
        com.sun.management.ThreadMXBean threads =
                (com.sun.management.ThreadMXBean) ManagementFactory.getThreadMXBean();
        dearRun(threads);
        long made = dearRun(threads);
        System.out.println("RoomTest: " + made + " bytes made in " + CALLS + " calls (sum of answers " + sum + ")");
        if (made > MOST_BYTES_MADE) {
            System.out.println("at most " + MOST_BYTES_MADE + " are due");
            System.exit(1);
        }
    }

    private static long dearRun(com.sun.management.ThreadMXBean threads) {
        LoopRanker loop = new LoopRanker();
        long id = Thread.currentThread().getId();
        long before = threads.getThreadAllocatedBytes(id);
        int calls = 0;
        for (int t = 0; t < 6; t++) {
            sum += loop.transition();
            sum += loop.guard(t, -1, 0, t);
            sum += loop.guard(t, 0, -1, t);
            sum += loop.guard(t, 1, 1, 99);
            sum += loop.guard(t, 2, 3, 98);
            calls += 5;
        }
        while (calls + 6 <= CALLS) {
            int t = calls % 6;
            sum += loop.update(t, 0, 1, 0, -1 - calls % 3) ? 1 : 0;
            sum += loop.budget() + loop.levels() + loop.floor(0) + loop.rank(0) + loop.greatest(t, 7, -3);
            calls += 6;
        }
        return threads.getThreadAllocatedBytes(id) - before;
    }
}
