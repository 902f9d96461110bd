import java.util.NoSuchElementException;

/** Promises 61 to 63. */
public final class UndoTest {
    public static void main(String[] args) {
        everyChangeIsUndone();
        atMostEight();
        undoneOnesDoNotCount();
        callsThatAreNoChanges();
        whatUndoLeaves();
        snapshots();
        wrongSlots();
        Check.end("UndoTest");
    }

    private interface Change {
        void make(MoonComplaintWindow window);
    }

    private static void everyChangeIsUndone() {
        Change[] changes = {
            w -> w.fileComplaint(7, 3, 2),
            w -> w.giveUp(0),
            w -> w.addClerk(2, 3),
            w -> w.refill(1, 50),
            w -> w.setCloud(1, 8),
            w -> w.setGlareLimit(3),
            w -> w.setGloomLimit(7),
            w -> w.setTideLimit(1),
            w -> w.endNights(1),
            w -> w.endNights(60),
            w -> w.restoreSnapshot(1),
        };
        for (int i = 0; i < changes.length; i++) {
            MoonComplaintWindow window = new MoonComplaintWindow();
            window.setGlareLimit(5);
            window.saveSnapshot(1);
            window.endNights(4);
            String before = Check.state(window);
            changes[i].make(window);
            Check.due("change " + i + " differs", Check.state(window).equals(before), false);
            Check.due("undo of change " + i, window.undo(), 2);
            Check.due("state", Check.state(window), before);
            Check.due("undo", window.undo(), 1);
            Check.due("undo", window.undo(), 0);
            Check.due("state", Check.state(window), Check.state(new MoonComplaintWindow()));
            Check.dueThrow("undo of nothing", IllegalStateException.class, () -> window.undo());
        }
    }

    private static void atMostEight() {
        MoonComplaintWindow window = new MoonComplaintWindow();
        for (int i = 1; i <= 11; i++) {
            window.setGlareLimit(i);
        }
        for (int left = 7; left >= 0; left--) {
            Check.due("undo", window.undo(), left);
            Check.due("glareLimit", window.glareLimit(), left + 3);
        }
        Check.dueThrow("undo", IllegalStateException.class, () -> window.undo());
        Check.due("glareLimit", window.glareLimit(), 3);
    }

    private static void undoneOnesDoNotCount() {
        MoonComplaintWindow window = new MoonComplaintWindow();
        for (int i = 1; i <= 9; i++) {
            window.setGlareLimit(i);
        }
        Check.due("undo", window.undo(), 7);
        Check.due("undo", window.undo(), 6);
        window.setGloomLimit(0);
        Check.due("glareLimit", window.glareLimit(), 7);
        Check.due("undo", window.undo(), 6);
        Check.due("gloomLimit", window.gloomLimit(), 2);
        Check.due("glareLimit", window.glareLimit(), 7);
        Check.due("undo", window.undo(), 5);
        Check.due("glareLimit", window.glareLimit(), 6);
        // The same value again is a change all the same.
        window.setGlareLimit(6);
        window.setGlareLimit(6);
        Check.due("undo", window.undo(), 6);
        Check.due("glareLimit", window.glareLimit(), 6);
    }

    private static void callsThatAreNoChanges() {
        MoonComplaintWindow window = new MoonComplaintWindow();
        window.setTideLimit(3);
        window.append(0, 0, 0, 0, 0);
        window.shorten(0);
        window.saveSnapshot(0);
        window.writeComplaints(4);
        window.answersTonight();
        window.nightsToClose(0);
        Check.dueThrow("load", IllegalArgumentException.class, () -> window.load());
        Check.dueThrow("a change that throws", IllegalArgumentException.class, () -> window.setTideLimit(8));
        Check.dueThrow("a change that throws", IllegalStateException.class, () -> window.fileComplaint(4, 0, 1));
        Check.dueThrow("a change that throws", NoSuchElementException.class, () -> window.restoreSnapshot(1));
        Check.due("undo", window.undo(), 0);
        Check.due("tideLimit", window.tideLimit(), 6);
    }

    private static void whatUndoLeaves() {
        MoonComplaintWindow window = new MoonComplaintWindow();
        window.endNights(2);
        window.append(0x6d6f6f6e, 0, 0, 0, 0);
        Check.dueThrow("load", IllegalArgumentException.class, () -> window.load());
        window.append(0, 0, 0, 0, 0);
        window.writeComplaints(9);
        window.saveSnapshot(1);
        window.undo();
        Check.due("the input buffer stays", window.append(0, 0, 0, 0, 0), 40);
        Check.due("the error stays", window.errorOffset(), 4);
        Check.due("the written text stays", window.writtenByte(2), 'a');
        Check.due("the snapshot stays", window.restoreSnapshot(1), 2);
        window.undo();
        Check.due("night", window.night(), 0);
        Check.due("the snapshot stays", window.restoreSnapshot(1), 2);
    }

    private static void snapshots() {
        MoonComplaintWindow window = new MoonComplaintWindow();
        Check.due("saveSnapshot", window.saveSnapshot(0), 0);
        String first = Check.state(window);
        window.endNights(9);
        window.addClerk(5, 5);
        Check.due("saveSnapshot", window.saveSnapshot(1), 9);
        String second = Check.state(window);
        Check.due("restoreSnapshot", window.restoreSnapshot(0), 0);
        Check.due("state", Check.state(window), first);
        window.giveUp(0);
        window.setCloud(0, 9);
        Check.due("restoreSnapshot: it stays in the slot", window.restoreSnapshot(0), 0);
        Check.due("state", Check.state(window), first);
        Check.due("restoreSnapshot", window.restoreSnapshot(1), 9);
        Check.due("state", Check.state(window), second);
        // endNights, addClerk, restore, giveUp, setCloud, restore, restore: seven changes.
        Check.due("undo", window.undo(), 6);
        Check.due("state", Check.state(window), first);
        Check.due("undo", window.undo(), 5);
        Check.due("cloud", window.cloudOf(0), 9);
        Check.due("an earlier one is replaced", window.saveSnapshot(1), 0);
        window.undo();
        Check.due("restoreSnapshot", window.restoreSnapshot(1), 0);
        Check.due("cloud", window.cloudOf(0), 9);
        Check.due("givenUpCount", window.givenUpCount(), 1);
        closedAgain();
    }

    /** What was closed in the snapshot is closed again as it was, whatever became of it meanwhile. */
    private static void closedAgain() {
        MoonComplaintWindow window = new MoonComplaintWindow();
        window.endNights(2);
        window.giveUp(0);
        window.saveSnapshot(0);
        String saved = Check.state(window);
        window.undo();
        window.endNights(20);
        Check.due("answered meanwhile", window.isAnswered(0), true);
        window.restoreSnapshot(0);
        Check.due("state", Check.state(window), saved);
        Check.due("closedIn", window.closedIn(0), 2);
        Check.dueThrow("clerkOf", NoSuchElementException.class, () -> window.clerkOf(0));
        window.undo();
        Check.due("closedIn", window.closedIn(0), 9);
        Check.due("clerkOf", window.clerkOf(0), 0);
    }

    private static void wrongSlots() {
        MoonComplaintWindow window = new MoonComplaintWindow();
        for (int slot : new int[] {-1, 2, Integer.MIN_VALUE, Integer.MAX_VALUE}) {
            Check.dueThrow("saveSnapshot " + slot, IndexOutOfBoundsException.class, () -> window.saveSnapshot(slot));
            Check.dueThrow("restoreSnapshot " + slot, IndexOutOfBoundsException.class, () -> window.restoreSnapshot(slot));
        }
        window.saveSnapshot(1);
        Check.dueThrow("slot 0 is empty", NoSuchElementException.class, () -> window.restoreSnapshot(0));
        Check.due("slot 1 is not", window.restoreSnapshot(1), 0);
    }
}
