import com.sun.management.ThreadMXBean;
import java.lang.management.ManagementFactory;

/** What a run of 512 dear calls takes of the room that is never emptied. */
public final class RoomTest {
    private static final long MAX_BYTES = 2_000_000;

    public static void main(String[] args) {
        ThreadMXBean threads = (ThreadMXBean) ManagementFactory.getThreadMXBean();
        long self = Thread.currentThread().getId();
        run();
        long before = threads.getThreadAllocatedBytes(self);
        run();
        long taken = threads.getThreadAllocatedBytes(self) - before;
        Check.same("a run takes less than " + MAX_BYTES + " bytes (" + taken + ")", taken < MAX_BYTES, true);
        Check.end();
    }

    // Every round makes the graphs and the intersection anew.
    private static void run() {
        FreeGroupCalculator x = Check.loaded("rank 2;set 0 " + "a".repeat(60) + ";set 1 " + "a".repeat(59)
                + ";set 2 " + "b".repeat(60) + ";set 3 " + "b".repeat(59) + ";join 0 0;join 0 2;join 1 1;join 1 3;");
        for (int calls = 20; calls <= 512 - 12; calls += 12) {
            x.addGeneratingWord(0, 0);
            x.intersectionRank();
            x.intersectionIndex();
            x.isNormal(0);
            x.formatBasisWord(0, 0);
            x.formatRepresentative(1, 30);
            x.magnusNorm(3, 4);
            x.setCommutator(7, 0, 0);
            x.formatWord(0);
            x.save();
            x.restore();
            x.removeGeneratingWord(0, 2);
        }
    }
}
