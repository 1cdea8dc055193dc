import java.lang.management.ManagementFactory;

/** All calls of a run live in one room: what an object needs is made once, and the calls make nothing anew. */
public final class RoomTest {
    private static final int CALLS = 512;
    private static int answers = 0;

    public static void main(String[] args) {
        // The first run loads classes, which takes room of another kind.
        dearestRun();
        long before = taken();
        dearestRun();
        long bytes = taken() - before;
        Due.holds("the dearest run takes " + bytes + " bytes", bytes < 40000);
        Due.holds("the run was not left out", answers != 0);
        Due.end();
    }

    private static long taken() {
        return ((com.sun.management.ThreadMXBean) ManagementFactory.getThreadMXBean()).getCurrentThreadAllocatedBytes();
    }

    private static void dearestRun() {
        MixedCells m = new MixedCells();
        for (int k = 0; k < 7; k++) {
            m.put(0, k, k * k % 13, k * k);
            m.put(1, k * k % 13, 12 - k, 7 * k % 11);
        }
        for (int i = 14; i + 10 < CALLS; i += 10) {
            answers += m.cells(0, 1, 2) + m.cells(0, 1, 111) + m.cell(0, 1, 3, 2) + m.slope(0, 1, 3, 0);
            answers += m.fan(0, 2) + m.roots(0, 1, 13) + m.image(0) + m.restore(0);
            answers += m.sum(0, 1, 3) + m.hull(0, 2);
        }
    }
}
