import com.sun.management.ThreadMXBean;
import java.lang.management.ManagementFactory;

/** All calls of one run live in one room: an object is made once, and then no call makes anything. */
public final class RoomTest {
    private static final Due DUE = new Due("RoomTest");
    private static final ThreadMXBean BEAN = (ThreadMXBean) ManagementFactory.getThreadMXBean();
    private static final int CALLS = 512;
    private static final long MOST_FOR_AN_OBJECT = 40_000;

    private static long sum = 0;

    private RoomTest() {
    }

    public static void main(String[] args) {
        if (!BEAN.isThreadAllocatedMemorySupported()) {
            DUE.holds("the machine tells what is made", true);
            DUE.end();
            return;
        }
        for (int i = 0; i < 3; i++) {
            measure(false);
        }
        measure(true);
        DUE.holds("something was answered", sum != 0);
        DUE.end();
    }

    private static long made() {
        return BEAN.getCurrentThreadAllocatedBytes();
    }

    private static void measure(boolean told) {
        long start = made();
        NoneMayLeave x = new NoneMayLeave();
        long born = made();
        for (int m = 0; m < 8; m++) {
            x.maker(m % 7, m, 10 * m);
            x.knows(m, m % 4, true);
            x.knows(m, (m + 1) % 4, true);
        }
        for (int i = 0; i < 9; i++) {
            x.row(i, 3, 160);
        }
        long ahead = made();
        for (int i = 0; i < CALLS; i++) {
            sum += x.council(2, -1) + x.years(1 + i % 3) + x.island(i % 8) + x.spend() + x.sold(3);
            sum += x.judge(0, 40) + x.behind(0, 40, 1) + x.done(0, 1) + x.keys(0, 40, 1) + x.act(6, 2, i);
            sum += x.row(i % 8, i % 4, 160) + x.image() + x.restore() + x.who(0, 1, 40) + x.tries(0, -1);
        }
        long end = made();
        if (told) {
            DUE.holds("an object is small: " + (born - start), born - start < MOST_FOR_AN_OBJECT);
            // The measuring itself may make a little.
            DUE.holds("calls make nothing: " + (end - ahead), end - ahead < 1000);
        }
    }
}
