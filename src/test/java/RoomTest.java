import com.sun.management.ThreadMXBean;
import java.lang.management.ManagementFactory;

/** All calls of one run share one room, so no call makes objects; the constructor makes all rows. */
public final class RoomTest {
    private static final int TIMES = 128;

    private interface Call {
        void make(MoonComplaintWindow window, int number);
    }

    public static void main(String[] args) {
        ThreadMXBean threads = (ThreadMXBean) ManagementFactory.getThreadMXBean();
        if (threads.isThreadAllocatedMemorySupported()) {
            due(threads, "predictions", (w, i) -> w.nightsToClose(0));
            due(threads, "answersTonight", (w, i) -> w.answersTonight());
            due(threads, "changes", (w, i) -> w.setCloud(0, i % 10));
            due(threads, "nights", (w, i) -> {
                w.endNights(60);
                w.undo();
            });
            due(threads, "snapshots", (w, i) -> {
                w.saveSnapshot(i % 2);
                w.restoreSnapshot(i % 2);
            });
            due(threads, "queries", (w, i) -> {
                w.likeliestSort();
                w.nextJustified(0);
                w.comfort();
                w.meanWait();
            });
            due(threads, "writing", (w, i) -> w.writeComplaints(4));
            due(threads, "texts", RoomTest::load);
            long before = threads.getCurrentThreadAllocatedBytes();
            MoonComplaintWindow window = new MoonComplaintWindow();
            long made = threads.getCurrentThreadAllocatedBytes() - before;
            Check.due("a new object needs " + made + " bytes", made < 50000 && window.night() == 0, true);
        }
        Check.due("a new object", new MoonComplaintWindow().night(), 0);
        Check.end("RoomTest");
    }

    private static void load(MoonComplaintWindow window, int number) {
        // "moon 8 2 6;clouds 0;" is just 20 bytes.
        window.append(0x6d6f6f6e, 0x20382032, 0x20363b63, 0x6c6f7564, 0x7320303b);
        window.load();
    }

    private static void due(ThreadMXBean threads, String what, Call call) {
        MoonComplaintWindow window = new MoonComplaintWindow();
        long before = threads.getCurrentThreadAllocatedBytes();
        for (int i = 0; i < TIMES; i++) {
            call.make(window, i);
        }
        long made = threads.getCurrentThreadAllocatedBytes() - before;
        // What is left of it is the machine's own, for the first calls of a lambda.
        Check.due(TIMES + " times " + what + " need " + made + " bytes", made < 20000, true);
    }
}
