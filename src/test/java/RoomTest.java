import java.lang.management.ManagementFactory;

/** All memory is rows made once: a unit is small, and calls that answer make nothing. */
public final class RoomTest {
    private static final Checks CHECKS = new Checks();
    /** Far below what one object a call would take. */
    private static final long SLACK = 2000;
    private static final int UNITS = 100;
    private static final long MOST_OF_A_UNIT = 50_000;

    private static final com.sun.management.ThreadMXBean THREADS =
        (com.sun.management.ThreadMXBean) ManagementFactory.getThreadMXBean();

    public static void main(String[] args) {
        calls(new TrackUnit());
        TrackUnit x = new TrackUnit();
        long before = allocated();
        calls(x);
        long made = allocated() - before;
        CHECKS.due("calls made " + made + " bytes: too many", made > SLACK ? 1 : 0, 0);
        before = allocated();
        TrackUnit[] units = new TrackUnit[UNITS];
        for (int i = 0; i < UNITS; i++) {
            units[i] = new TrackUnit();
        }
        made = (allocated() - before) / UNITS;
        CHECKS.due("a unit takes " + made + " bytes: too many", made > MOST_OF_A_UNIT ? 1 : 0, 0);
        CHECKS.due("they are there", units[UNITS - 1].start(), 0);
        CHECKS.finish();
    }

    private static long allocated() {
        return THREADS.getThreadAllocatedBytes(Thread.currentThread().getId());
    }

    /** Every method of the face, some five hundred calls. */
    private static void calls(TrackUnit x) {
        x.poke(0, 1);
        x.poke(1, 1);
        x.command(0, 20, 0);
        x.command(9, 0, 0);
        x.command(9, 0, 0);
        x.command(10, 0, 0);
        x.command(3, 9, 1);
        x.command(4, 4, 0);
        x.command(7, 20, 60);
        x.command(8, 20, 1);
        x.command(5, 30, 0);
        x.command(6, 30, 9);
        x.allocate(0, 5);
        for (int i = 0; i < 60; i++) {
            x.start();
            x.look(5);
            x.clock();
            x.record(20, 1, 2);
            x.store(0, i % 30, 10);
            x.fetch(0, i);
            x.trackOf(0, 4);
            x.free();
        }
        x.byteOf(20, 1, 0);
        x.spoil(20, 1);
        x.peek(0);
        x.scratch(0);
    }
}
