import com.sun.management.ThreadMXBean;
import java.lang.management.ManagementFactory;

/** All calls of a run live in one room: an object is small, and its calls make nothing more. */
public final class RoomTest {
    private static final Check CHECK = new Check("RoomTest");
    private static final ThreadMXBean THREADS = (ThreadMXBean) ManagementFactory.getThreadMXBean();

    private static final int OBJECT_BYTES = 200_000;
    // 18 calls a round, 504 in all.
    private static final int ROUNDS = 28;

    public static void main(String[] args) {
        run(new GaugeWall());
        long start = THREADS.getCurrentThreadAllocatedBytes();
        GaugeWall x = new GaugeWall();
        long made = THREADS.getCurrentThreadAllocatedBytes();
        run(x);
        long end = THREADS.getCurrentThreadAllocatedBytes();
        System.out.println("RoomTest: an object takes " + (made - start) + " bytes, " + ROUNDS + " rounds of calls "
            + (end - made));
        CHECK.due("bytes of an object above what is fine", Math.max(0, made - start - OBJECT_BYTES), 0);
        CHECK.due("bytes of the calls above what the count itself takes", Math.max(0, end - made - 1000), 0);
        CHECK.finish();
    }

    private static void run(GaugeWall x) {
        for (int n = 0; n < ROUNDS; n++) {
            // "box b worth 1 fresh 2 size 1 1=s0;"
            x.feed(0x626f7820, 0x6220776f, 0x72746820, 0x31206672, 0x65736820);
            x.feed(0x32207369, 0x7a652031, 0x20313d73, 0x303b2020, 0x20202020);
            x.back(n % 7);
            x.read();
            x.value(0, n, n);
            x.down(0, n + 1, n + 2);
            x.ask(1);
            x.look(0);
            x.let(0);
            x.shows(0);
            x.plan(1, 10);
            x.follow();
            x.fix(0, n % 31, 3);
            x.lay(8);
            x.at(0, 0);
            x.unseen(3, 0);
            x.count(8);
            x.tick();
        }
    }
}
