import com.sun.management.ThreadMXBean;
import java.lang.management.ManagementFactory;

/** All calls of a run share one room, so that the dearest calls must make next to nothing. */
public final class RoomTest {
    private static final int OBJECTS = 80;
    // One round has some 70 calls, and an object at most 512.
    private static final int ROUNDS = 7;
    // The room is some 29 megabytes of four bytes an element; this is what Java itself may use beside the calls.
    private static final long MOST_BYTES = 1_000_000;

    public static void main(String[] args) {
        ThreadMXBean threads = (ThreadMXBean) ManagementFactory.getThreadMXBean();
        PaperStorm[] storms = new PaperStorm[OBJECTS];
        for (int index = 0; index < OBJECTS; index++) {
            storms[index] = new PaperStorm();
        }
        dearCalls(new PaperStorm());
        long before = threads.getThreadAllocatedBytes(Thread.currentThread().getId());
        for (PaperStorm storm : storms) {
            for (int round = 0; round < ROUNDS; round++) {
                dearCalls(storm);
            }
        }
        long used = threads.getThreadAllocatedBytes(Thread.currentThread().getId()) - before;
        System.out.println("RoomTest: " + OBJECTS * ROUNDS + " rounds made " + used + " bytes");
        Checks.due("room", used < MOST_BYTES, true);
        Checks.finish("RoomTest");
    }

    private static void dearCalls(PaperStorm storm) {
        storm.isConsistent();
        storm.writeChances(3);
        storm.denominatorByBranches(3, 3);
        storm.regionSize(4, 4);
        storm.setPressure(2, 2, 9);
        storm.undo();
        Checks.run(storm, "look;look;look;look;look;look;look;look;look;look;look;look");
        storm.save();
        storm.restore();
    }
}
