import java.lang.management.ManagementFactory;

/** All calls of a run live in one room: no call but those that build may take memory, however long the run. */
public final class RoomTest {
    private static final long MOST_BYTES_OF_A_RUN = 20000;

    private RoomTest() {
    }

    public static void main(String[] args) {
        // The first runs load classes; only what comes after them is counted.
        for (int i = 0; i < 20; i++) {
            longRun(new FilterPipe(12));
        }
        com.sun.management.ThreadMXBean threads = (com.sun.management.ThreadMXBean) ManagementFactory.getThreadMXBean();
        long thread = Thread.currentThread().getId();
        long before = threads.getThreadAllocatedBytes(thread);
        FilterPipe pipe = new FilterPipe(12);
        int calls = longRun(pipe);
        long taken = threads.getThreadAllocatedBytes(thread) - before;
        Check.due("a run of 400 to 512 calls: " + calls, calls >= 400 && calls <= 512, true);
        Check.due("the run made the longest signal", pipe.waiting(3), 2286);
        System.out.println("bytes taken by a run: " + taken);
        Check.due("bytes taken by a run: " + taken, taken <= MOST_BYTES_OF_A_RUN, true);
        Check.end();
    }

    /** The chain that makes most samples, restarted now and then, and refused calls between; answers how many calls. */
    private static int longRun(FilterPipe pipe) {
        int calls = 6;
        pipe.format(8, false, false);
        for (int i = 0; i < 3; i++) {
            pipe.window(2, 8);
        }
        pipe.resample(4, 1);
        pipe.resample(4, 1);
        for (int i = 0; i < 10; i++) {
            pipe.resample(1, 1);
            pipe.section(1, 1, 1, 1, 1);
            pipe.start();
            pipe.restart();
            calls += 4;
        }
        for (int i = 0; i < 30; i++) {
            calls += pipe.bytes(4, 0x70605040 * i) / 4;
        }
        pipe.close();
        calls++;
        int steps = 1;
        for (int i = 0; i < 200 && steps > 0; i++) {
            steps = pipe.produce(1000) + pipe.consume(1000);
            calls += 2;
        }
        pipe.sinkByte(2000);
        pipe.power(3);
        pipe.response(0, 3);
        return calls + 3;
    }
}
