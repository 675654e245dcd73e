import com.sun.management.ThreadMXBean;
import java.lang.management.ManagementFactory;

/** All calls of a run live in one room: so a new object is small, and no call makes anything. */
public final class RoomTest {
    private static final ThreadMXBean THREADS = (ThreadMXBean) ManagementFactory.getThreadMXBean();
    private static final int CALLS = 512;
    /** 7.3 million elements of 4 bytes, for 512 objects made in one run: with as much to spare. */
    private static final long MOST_BYTES_NEW = 7300000L * 4 / CALLS / 2;

    private static RopeWords kept;

    public static void main(String[] args) {
        RopeWords x = greatFeast();
        runAll(x); // the machine's own first-time objects are none of ours
        RopeWords[] many = new RopeWords[8];
        many[0] = new RopeWords();
        long before = bytes();
        for (int i = 0; i < many.length; i++) {
            many[i] = new RopeWords();
        }
        long each = (bytes() - before) / many.length;
        kept = many[3];
        Check.holds("a new object of " + each + " bytes", kept != null && each <= MOST_BYTES_NEW);

        x = greatFeast();
        before = bytes();
        runAll(x);
        long made = bytes() - before;
        // to measure takes some bytes itself; the least object in each call would take 16 times this
        Check.holds(made + " bytes made by " + CALLS + " calls", made < CALLS);
        Check.end();
    }

    private static long bytes() {
        return THREADS.getThreadAllocatedBytes(Thread.currentThread().getId());
    }

    private static RopeWords greatFeast() {
        RopeWords x = new RopeWords();
        Check.feed(x, "g4 0;s9;s8;s7;s6;s5;s4;e5;e4;e3;e2;");
        for (int i = 0; i < 10; i++) {
            Check.feed(x, "p" + i % 2 + " 40 " + 9 * i + " 9;");
        }
        Check.due("speakers", x.feast(), 10);
        return x;
    }

    private static void runAll(RopeWords x) {
        int sum = 0;
        for (int i = 0; i < CALLS / 16; i++) {
            sum += x.drift(99);
            sum += x.game(10, 1023, 0);
            sum += x.order(i % 2, i, 0);
            sum += x.pick(0);
            sum += x.mark(i);
            sum += x.spoke(i % 8, 24);
            sum += x.silence(0, 1);
            sum += x.longest(99, 1);
            sum += x.round(0, 11110, 1, 22220);
            sum += x.coughs(1023);
            sum += x.keep(i % 2);
            sum += x.goBack(i % 2);
            sum += x.write(i, i);
            sum += x.judge();
            sum += x.length(66664);
            sum += x.undo();
        }
        x.feed('g');
        sum += x.feast();
        if (sum == 0) {
            System.out.println("the sum is 0");
        }
    }
}
