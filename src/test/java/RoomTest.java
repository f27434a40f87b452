import java.lang.management.ManagementFactory;

/** All calls of one run live in one room: a whole run makes hardly anything beyond its constructor. */
public final class RoomTest {
    public static void main(String[] args) {
        com.sun.management.ThreadMXBean bean = (com.sun.management.ThreadMXBean) ManagementFactory.getThreadMXBean();
        long thread = Thread.currentThread().getId();
        run();
        long before = bean.getThreadAllocatedBytes(thread);
        long sum = run();
        long made = bean.getThreadAllocatedBytes(thread) - before;
        // of some 7.3 million fields and elements, 4 bytes or more each
        boolean good = made < 400_000 && sum != 0;
        System.out.println("RoomTest: a run of 512 dear calls made " + made + " bytes" + (good ? "" : ": too many"));
        if (!good) {
            System.exit(1);
        }
    }

    private static long run() {
        LapBoard x = new LapBoard();
        long sum = 0;
        for (int i = 0; i < 30; i++) {
            sum += x.station(10 * (i % 4) + i % 3, 3 * i + 1, 2 * i + 1);
        }
        for (int t = 0; t < 4; t++) {
            x.tyre(t, 10 * t - 10, 1 + t);
        }
        for (int i = 0; i < 59; i++) {
            sum += x.set(1, i % 30 + 1);
            sum += x.wants();
            sum += x.race(40) + x.plan(39, 38, 2);
            sum += x.keep(i % 8, 3 + i % 2, 0);
            sum += x.where(60);
            sum += x.keep(i % 8, 1, i % 30);
            sum += x.toss(i % 8);
        }
        return sum;
    }
}
