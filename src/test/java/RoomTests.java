import com.sun.management.ThreadMXBean;
import java.lang.management.ManagementFactory;

/** All calls of a run live in one room: what the dearest runs of 512 calls make must fit into it. */
public final class RoomTests {
    /** 7.3 million elements of the smallest kind that the program keeps. */
    private static final long ROOM = 7_300_000L * 4;

    private static final ThreadMXBean MADE =
            ManagementFactory.getPlatformMXBean(ThreadMXBean.class);

    private interface Dear {
        double on(Counted x);
    }

    public static void main(String[] args) {
        Check.topic("room");
        Check.holds("what a thread makes can be told", MADE.isThreadAllocatedMemorySupported());
        fits("rows of a key with 3600", x -> x.rows(0, 0));
        fits("the last of 3600 rows", x -> x.rowTo(0, 0, 3599));
        fits("the first of 3600 rows", x -> x.rowTo(0, 0, 0));
        fits("the run of the last row", x -> x.rowRun(0, 0, 3599));
        fits("a row that is none", x -> x.rowFrom(0, 0, 3600));
        fits("runs", x -> x.runs(0, 0, 59) + x.run(0, 0, 59, 59) + x.longest(0, 0, 59));
        fits("changes", x -> x.put(0, 0, x.left() % 100, 0, 60) + x.eraseAll(0, 0, 60));
        fits("restoring", x -> x.restore(0, 0, x.left() % 60));
        fits("a change that is refused", x -> x.put(1, 0, 1, 0, 60));
        fits("corrections", x -> x.corrections(0, 0, 0, 0, 59) + x.average(0, 59));
        Check.end("RoomTests");
    }

    private static void fits(String what, Dear call) {
        long before = MADE.getThreadAllocatedBytes(Thread.currentThread().getId());
        Counted x = Starts.allRows();
        while (x.left() >= 3) {
            try {
                call.on(x);
            } catch (RuntimeException e) {
                // Its exception is made in the room, too.
                continue;
            }
        }
        long made = MADE.getThreadAllocatedBytes(Thread.currentThread().getId()) - before;
        Check.holds(what + " takes " + made + " bytes", made <= ROOM);
    }
}
