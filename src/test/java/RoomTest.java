import com.sun.management.ThreadMXBean;
import java.lang.management.ManagementFactory;

/** All calls of a run share one room, so that the dearest calls must make next to nothing. */
public final class RoomTest {
    private static final int CALLS = 512;
    // The room is some 29 megabytes of four bytes an element; this is what Java itself may use beside the calls.
    private static final long MOST_BYTES = 1_000_000;

    public static void main(String[] args) {
        ThreadMXBean threads = (ThreadMXBean) ManagementFactory.getThreadMXBean();
        PaperStorm storm = new PaperStorm();
        dearCalls(storm);
        long before = threads.getThreadAllocatedBytes(Thread.currentThread().getId());
        for (int call = 0; call < CALLS; call++) {
            dearCalls(storm);
        }
        long used = threads.getThreadAllocatedBytes(Thread.currentThread().getId()) - before;
        System.out.println("RoomTest: " + CALLS + " rounds made " + used + " bytes");
        Checks.due("room", used < MOST_BYTES, true);
        Checks.finish("RoomTest");
    }

    private static void dearCalls(PaperStorm storm) {
        storm.isConsistent();
        storm.writeChances(3);
        storm.denominatorByBranches(3, 3);
        storm.regionSize(4, 4);
        storm.setPressure(2, 2, 9);
        storm.undo();
        Checks.run(storm, "look;look;look;look;look;look;look;look;look;look;look;look");
        storm.save();
        storm.restore();
    }
}
