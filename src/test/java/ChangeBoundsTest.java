import java.util.NoSuchElementException;

/** The bounds under "6. Changes and exceptions" and of promises 61 to 63: a method for each sentence that names one. */
public final class ChangeBoundsTest {
    private static final Class<IllegalArgumentException> WRONG_ARGUMENT = IllegalArgumentException.class;
    private static final Class<IllegalStateException> WRONG_STATE = IllegalStateException.class;
    private static final Class<IndexOutOfBoundsException> WRONG_INDEX = IndexOutOfBoundsException.class;
    private static final Class<NoSuchElementException> NO_ELEMENT = NoSuchElementException.class;

    /** Each of the ten kinds of changes, on the window of past(); that of endNights in both its ends. */
    private static final Refused.Call[] CHANGES = {
        w -> w.fileComplaint(7, 3, 2), w -> w.giveUp(0), w -> w.addClerk(2, 3), w -> w.refill(1, 50), w -> w.setCloud(1, 8),
        w -> w.setGlareLimit(3), w -> w.setGloomLimit(7), w -> w.setTideLimit(1), w -> w.endNights(1), w -> w.endNights(60),
        w -> w.restoreSnapshot(1),
    };

    public static void main(String[] args) {
        eachKindIsAChange();
        changesWithoutADifference();
        refusedCallsAreNoChanges();
        otherCallsAreNoChanges();
        theLatest8CanBeUndone();
        undoneOnesDoNotCount();
        undoOfNothing();
        undoRestoresEverything();
        undoRestoresTheEndOfNights();
        undoLeavesTheInputBuffer();
        undoLeavesTheError();
        undoLeavesTheWrittenText();
        undoLeavesTheSnapshots();
        twoSlots();
        anEmptySlot();
        theSnapshotStaysInTheSlot();
        anEarlierSnapshotIsReplaced();
        aSnapshotHoldsNothingThatCanBeUndone();
        restoringIsUndone();
        fullOffices();
        severalExceptionsAtOnce();
        aLoadWithAnError();
        Check.end("ChangeBoundsTest");
    }

    /** Five changes, a snapshot of another night in slot 1, an error, a written text and a text in the buffer. */
    private static MoonComplaintWindow past() {
        MoonComplaintWindow window = new MoonComplaintWindow();
        window.setGlareLimit(5);
        window.endNights(2);
        window.giveUp(3);
        window.fileComplaint(50, 0, 4);
        window.saveSnapshot(1);
        window.endNights(4);
        window.writeComplaints(30);
        Check.put(window, "moon 8 x");
        Refused.answer(window, w -> w.load());
        Check.put(window, "moon 8 2 6;clouds 1;");
        return window;
    }

    /** "A change is a call of .. that throws no exception" */
    private static void eachKindIsAChange() {
        for (int i = 0; i < CHANGES.length; i++) {
            MoonComplaintWindow window = past();
            String before = Check.state(window);
            CHANGES[i].on(window);
            Check.due("change " + i + " makes a difference", Check.state(window).equals(before), false);
            Check.due("undo of change " + i, window.undo(), 5);
            Check.due("state behind change " + i, Check.state(window), before);
        }
    }

    /** "even if nothing is different afterwards" */
    private static void changesWithoutADifference() {
        MoonComplaintWindow window = Check.loaded("moon 8 2 6;clouds 5;clerk 1 99;");
        window.saveSnapshot(0);
        String before = Check.state(window);
        window.refill(0, 99);
        window.setCloud(0, 5);
        window.setGlareLimit(8);
        window.setGloomLimit(2);
        window.setTideLimit(6);
        window.restoreSnapshot(0);
        Check.due("state", Check.state(window), before);
        for (int left = 5; left >= 0; left--) {
            Check.due("undo", window.undo(), left);
            Check.due("state", Check.state(window), before);
        }
        Check.dueThrow("undo of nothing", WRONG_STATE, () -> window.undo());
    }

    /** "A call that throws an exception changes nothing": the ten kinds, of which past() has still five to undo. */
    private static void refusedCallsAreNoChanges() {
        Refused.due("fileComplaint", WRONG_ARGUMENT, ChangeBoundsTest::past, w -> w.fileComplaint(100, 0, 1));
        Refused.due("fileComplaint", WRONG_STATE, ChangeBoundsTest::past, w -> w.fileComplaint(50, 0, 1));
        Refused.due("giveUp", WRONG_INDEX, ChangeBoundsTest::past, w -> w.giveUp(5));
        Refused.due("giveUp", WRONG_STATE, ChangeBoundsTest::past, w -> w.giveUp(3));
        Refused.due("addClerk", WRONG_ARGUMENT, ChangeBoundsTest::past, w -> w.addClerk(0, 0));
        Refused.due("refill", WRONG_INDEX, ChangeBoundsTest::past, w -> w.refill(2, 1));
        Refused.due("refill", WRONG_ARGUMENT, ChangeBoundsTest::past, w -> w.refill(0, 0));
        Refused.due("setCloud", WRONG_INDEX, ChangeBoundsTest::past, w -> w.setCloud(3, 0));
        Refused.due("setCloud", WRONG_ARGUMENT, ChangeBoundsTest::past, w -> w.setCloud(0, 10));
        Refused.due("setGlareLimit", WRONG_ARGUMENT, ChangeBoundsTest::past, w -> w.setGlareLimit(0));
        Refused.due("setGloomLimit", WRONG_ARGUMENT, ChangeBoundsTest::past, w -> w.setGloomLimit(14));
        Refused.due("setTideLimit", WRONG_ARGUMENT, ChangeBoundsTest::past, w -> w.setTideLimit(8));
        Refused.due("endNights", WRONG_ARGUMENT, ChangeBoundsTest::past, w -> w.endNights(61));
        Refused.due("restoreSnapshot", WRONG_INDEX, ChangeBoundsTest::past, w -> w.restoreSnapshot(2));
        Refused.due("restoreSnapshot", NO_ELEMENT, ChangeBoundsTest::past, w -> w.restoreSnapshot(0));
        MoonComplaintWindow window = past();
        Check.due("undo", window.undo(), 4);
    }

    /** "All other calls change nothing but what their description tells." */
    private static void otherCallsAreNoChanges() {
        Refused.Call[] queries = {
            w -> w.hasError() ? 1 : 0, w -> w.errorOffset(), w -> w.night(), w -> w.lightOf(3), w -> w.tideOf(3),
            w -> w.cloudOf(3), w -> w.visibleLight(3), w -> w.glareLimit(), w -> w.gloomLimit(), w -> w.tideLimit(),
            w -> w.cloudCount(), w -> w.isJustified(0, 3) ? 1 : 0, w -> w.nextJustified(0), w -> w.justifiedNights(0),
            w -> w.likeliestSort(), w -> w.complaintCount(), w -> w.personOf(0), w -> w.sortOf(0), w -> w.angerOf(0),
            w -> w.filedIn(0), w -> w.isWaiting(0) ? 1 : 0, w -> w.isAnswered(0) ? 1 : 0, w -> w.isDismissed(0) ? 1 : 0,
            w -> w.isGivenUp(0) ? 1 : 0, w -> w.closedIn(3), w -> w.clerkOf(1), w -> w.waitingOf(50, 0),
            w -> w.waitingCount(), w -> w.answeredCount(), w -> w.dismissedCount(), w -> w.givenUpCount(), w -> w.oldest(),
            w -> w.angriest(), w -> w.complaintsOf(4), w -> w.clerkCount(), w -> w.darkestClerk(), w -> w.skillOf(0),
            w -> w.oilOf(0), w -> w.answeredBy(0), w -> w.oilCost(), w -> w.oilUsed(), w -> w.comfort(),
            w -> (long) w.meanWait(), w -> (long) w.answeredShare(), w -> w.answersTonight(), w -> w.nightsToClose(0),
            w -> w.willBeAnswered(0) ? 1 : 0, w -> w.writtenByte(0),
        };
        for (int i = 0; i < queries.length; i++) {
            Refused.dueNoChange("query " + i, ChangeBoundsTest::past, queries[i]);
        }
        Refused.dueNoOfficeChange("append", ChangeBoundsTest::past, w -> w.append(1, 2, 3, 4, 5));
        Refused.dueNoOfficeChange("shorten", ChangeBoundsTest::past, w -> w.shorten(0));
        Refused.dueNoInputChange("writeComplaints", ChangeBoundsTest::past, w -> w.writeComplaints(4));
        Refused.dueNoInputChange("saveSnapshot", ChangeBoundsTest::past, w -> w.saveSnapshot(0));
        MoonComplaintWindow window = past();
        String before = Check.state(window);
        window.writeComplaints(4);
        window.saveSnapshot(0);
        Check.due("state behind writeComplaints and saveSnapshot", Check.state(window), before);
        Check.due("they are no changes", window.undo(), 4);
        for (Refused.Call change : CHANGES) {
            Refused.dueNoInputChange("a change", ChangeBoundsTest::past, change);
        }
    }

    private static MoonComplaintWindow withChanges(int count) {
        MoonComplaintWindow window = Check.loaded("moon 14 0 7;clouds 0;clerk 1 0;");
        for (int i = 1; i <= count; i++) {
            window.refill(0, 1);
        }
        return window;
    }

    /** "The latest 8 changes can be undone." */
    private static void theLatest8CanBeUndone() {
        for (int count : new int[] {1, 7, 8, 9, 10, 15, 16, 17, 40}) {
            int undoable = Math.min(8, count);
            MoonComplaintWindow window = withChanges(count);
            for (int left = undoable - 1; left >= 0; left--) {
                Check.due("undo of " + count, window.undo(), left);
                Check.due("oilOf", window.oilOf(0), count - undoable + left);
            }
            Check.dueThrow("no more of " + count, WRONG_STATE, () -> window.undo());
            Check.due("oilOf", window.oilOf(0), count - undoable);
        }
    }

    /** "A change that was undone does not count any more." */
    private static void undoneOnesDoNotCount() {
        MoonComplaintWindow window = withChanges(8);
        Check.due("undo", window.undo(), 7);
        window.setGlareLimit(1);
        Check.due("seven and another one are eight", window.undo(), 7);
        Check.due("glareLimit", window.glareLimit(), 14);
        Check.due("undo goes on to the one before", window.undo(), 6);
        Check.due("oilOf", window.oilOf(0), 6);
        window.setGlareLimit(1);
        window.setGlareLimit(2);
        window.setGlareLimit(3);
        for (int left = 7; left >= 0; left--) {
            Check.due("undo", window.undo(), left);
        }
        // Of six and three changes the first can't be undone.
        Check.due("oilOf", window.oilOf(0), 1);
        MoonComplaintWindow ten = withChanges(10);
        Check.due("of ten the latest eight could be undone", ten.undo(), 7);
        MoonComplaintWindow all = withChanges(8);
        for (int left = 7; left >= 0; left--) {
            Check.due("undo", all.undo(), left);
        }
        all.setTideLimit(0);
        Check.due("the only one", all.undo(), 0);
        Check.due("tideLimit", all.tideLimit(), 7);
    }

    /** "Throws IllegalStateException if there is nothing to undo" */
    private static void undoOfNothing() {
        Refused.due("of a new object", WRONG_STATE, MoonComplaintWindow::new, w -> w.undo());
        Refused.due("behind load", WRONG_STATE, () -> Check.loaded("moon 1 0 0;clouds 3;"), w -> w.undo());
        Refused.due("behind the last undo", WRONG_STATE, () -> {
            MoonComplaintWindow window = withChanges(1);
            window.undo();
            return window;
        }, w -> w.undo());
        Refused.due("behind eight of nine", WRONG_STATE, () -> {
            MoonComplaintWindow window = withChanges(9);
            for (int i = 0; i < 8; i++) {
                window.undo();
            }
            return window;
        }, w -> w.undo());
        Refused.due("behind refused calls", WRONG_STATE, () -> {
            MoonComplaintWindow window = new MoonComplaintWindow();
            Refused.answer(window, w -> w.setGlareLimit(0));
            return window;
        }, w -> w.undo());
    }

    /** "Undoing a change restores everything as it was before it": the other changes that can be undone, too. */
    private static void undoRestoresEverything() {
        for (int i = 0; i < CHANGES.length; i++) {
            Refused.Call change = CHANGES[i];
            Refused.dueNoChange("change " + i + " and undo", ChangeBoundsTest::past, w -> change.on(w) + w.undo());
            Refused.Call next = CHANGES[(i + 2) % CHANGES.length];
            Refused.dueNoChange("two changes from " + i + " and undo of both", ChangeBoundsTest::past,
                    w -> change.on(w) + next.on(w) + w.undo() + w.undo());
        }
    }

    /** The end of nights with answers, a dismissal, growing anger and complaints given up. */
    private static void undoRestoresTheEndOfNights() {
        Refused.Past past = () -> Check.loaded("moon 14 0 7;clouds 9 8;clerk 1 18;clerk 9 5;"
                + "complaint 1 tide 1;complaint 2 glare 1;complaint 3 face 8;complaint 4 face 2;");
        MoonComplaintWindow window = past.window();
        window.endNights(57);
        Check.due("answered", window.answeredCount(), 1);
        Check.due("dismissed", window.dismissedCount(), 2);
        Check.due("given up", window.givenUpCount(), 1);
        Refused.dueNoChange("endNights and undo", past, w -> w.endNights(57) + w.undo());
        MoonComplaintWindow last = MoonBoundsTest.inNight("moon 14 0 7;clouds 9;", 940);
        last.endNights(59);
        last.undo();
        Check.due("undo of the last night", last.night(), 940);
        Check.due("which can be reached again", last.endNights(59), 0);
        Check.due("night", last.night(), 999);
    }

    /** "except the input buffer, ..": it stays as it is. */
    private static void undoLeavesTheInputBuffer() {
        MoonComplaintWindow window = new MoonComplaintWindow();
        window.setCloud(0, 1);
        Check.put(window, "moon 1 0 0;");
        window.setCloud(0, 2);
        Check.put(window, "clouds 7;#");
        window.undo();
        window.undo();
        Check.due("shorten", window.shorten(20), 20);
        Check.dueThrow("it isn't longer", WRONG_ARGUMENT, () -> window.shorten(21));
        Check.due("load", window.load(), 0);
        Check.due("cloudOf", window.cloudOf(0), 7);
        MoonComplaintWindow emptied = new MoonComplaintWindow();
        Check.put(emptied, "moon 1 0 0;");
        emptied.setCloud(0, 1);
        emptied.shorten(0);
        emptied.undo();
        Check.dueThrow("it isn't filled again", WRONG_ARGUMENT, () -> emptied.shorten(1));
    }

    /** "the error" */
    private static void undoLeavesTheError() {
        MoonComplaintWindow window = new MoonComplaintWindow();
        window.setCloud(0, 1);
        Check.put(window, "moon x");
        Check.dueThrow("load", WRONG_ARGUMENT, () -> window.load());
        Check.due("undo: a load with an error leaves it", window.undo(), 0);
        Check.due("hasError", window.hasError(), true);
        Check.due("errorOffset", window.errorOffset(), 5);
        Check.due("cloudOf", window.cloudOf(0), 0);
        window.setCloud(0, 1);
        Check.dueThrow("load of nothing", WRONG_ARGUMENT, () -> window.load());
        window.undo();
        Check.due("errorOffset: the later one", window.errorOffset(), 0);
    }

    /** "the written text" */
    private static void undoLeavesTheWrittenText() {
        MoonComplaintWindow window = new MoonComplaintWindow();
        window.giveUp(0);
        window.writeComplaints(4);
        window.undo();
        Check.due("a given up one", window.writtenByte(2), 'g');
        Check.due("isWaiting", window.isWaiting(0), true);
        Check.due("the second one", window.writtenByte(6), 'w');
        Check.dueThrow("its end", WRONG_INDEX, () -> window.writtenByte(8));
        window.setTideLimit(1);
        window.writeComplaints(99);
        window.undo();
        Check.dueThrow("an empty one stays too", WRONG_INDEX, () -> window.writtenByte(0));
    }

    /** "and the snapshots" */
    private static void undoLeavesTheSnapshots() {
        MoonComplaintWindow window = new MoonComplaintWindow();
        window.saveSnapshot(0);
        window.endNights(1);
        window.saveSnapshot(0);
        window.endNights(1);
        window.saveSnapshot(1);
        window.undo();
        window.undo();
        Check.due("night", window.night(), 0);
        Check.due("slot 0: the later one", window.restoreSnapshot(0), 1);
        Check.due("slot 1: it isn't emptied", window.restoreSnapshot(1), 2);
        Check.due("undo", window.undo(), 1);
        Check.due("undo", window.undo(), 0);
        Check.due("night", window.night(), 0);
        Check.due("slot 1", window.restoreSnapshot(1), 2);
    }

    /** "There are two snapshot slots, 0 and 1." */
    private static void twoSlots() {
        MoonComplaintWindow window = past();
        Check.due("slot 0", window.saveSnapshot(0), 6);
        Check.due("slot 1", window.saveSnapshot(1), 6);
        Check.due("slot 0", window.restoreSnapshot(0), 6);
        Check.due("slot 1", window.restoreSnapshot(1), 6);
        for (int slot : new int[] {-1, 2, Integer.MIN_VALUE, Integer.MAX_VALUE}) {
            Refused.due("saveSnapshot " + slot, WRONG_INDEX, ChangeBoundsTest::past, w -> w.saveSnapshot(slot));
            Refused.due("restoreSnapshot " + slot, WRONG_INDEX, ChangeBoundsTest::past, w -> w.restoreSnapshot(slot));
        }
    }

    /** "Throws NoSuchElementException if the slot is empty" */
    private static void anEmptySlot() {
        for (int i = 0; i < 2; i++) {
            int slot = i;
            Refused.due("of a new object", NO_ELEMENT, MoonComplaintWindow::new, w -> w.restoreSnapshot(slot));
            Refused.due("when the other is taken", NO_ELEMENT, () -> {
                MoonComplaintWindow window = new MoonComplaintWindow();
                window.endNights(1);
                window.saveSnapshot(1 - slot);
                return window;
            }, w -> w.restoreSnapshot(slot));
            Refused.due("behind load", NO_ELEMENT, () -> {
                MoonComplaintWindow window = new MoonComplaintWindow();
                window.saveSnapshot(0);
                window.saveSnapshot(1);
                Check.put(window, "moon 8 2 6;clouds 1;");
                window.load();
                return window;
            }, w -> w.restoreSnapshot(slot));
            MoonComplaintWindow window = new MoonComplaintWindow();
            window.endNights(1);
            window.saveSnapshot(slot);
            window.endNights(1);
            Check.dueThrow("load with an error", WRONG_ARGUMENT, () -> window.load());
            Check.due("leaves it", window.restoreSnapshot(slot), 1);
        }
    }

    /** "Restores a snapshot, which stays in the slot." */
    private static void theSnapshotStaysInTheSlot() {
        MoonComplaintWindow window = new MoonComplaintWindow();
        window.saveSnapshot(0);
        String saved = Check.state(window);
        for (int i = 0; i < 3; i++) {
            for (Refused.Call change : CHANGES) {
                Refused.answer(window, change);
            }
            Check.due("restoreSnapshot", window.restoreSnapshot(0), 0);
            Check.due("state", Check.state(window), saved);
        }
    }

    /** "An earlier snapshot in the slot is replaced." */
    private static void anEarlierSnapshotIsReplaced() {
        MoonComplaintWindow window = new MoonComplaintWindow();
        window.saveSnapshot(0);
        window.saveSnapshot(1);
        window.endNights(3);
        Check.due("saveSnapshot", window.saveSnapshot(1), 3);
        window.endNights(3);
        Check.due("the later one of slot 1", window.restoreSnapshot(1), 3);
        Check.due("that of slot 0 stays", window.restoreSnapshot(0), 0);
        // One of fewer complaints replaces one of more.
        window.fileComplaint(60, 1, 1);
        window.saveSnapshot(0);
        window.undo();
        window.saveSnapshot(0);
        window.restoreSnapshot(0);
        Check.due("complaintCount", window.complaintCount(), 4);
    }

    /** "Saves a snapshot of everything that undo restores, except what can be undone." */
    private static void aSnapshotHoldsNothingThatCanBeUndone() {
        MoonComplaintWindow window = withChanges(3);
        window.saveSnapshot(0);
        window.undo();
        window.undo();
        window.undo();
        Check.dueThrow("undo", WRONG_STATE, () -> window.undo());
        window.restoreSnapshot(0);
        Check.due("oilOf", window.oilOf(0), 3);
        Check.due("the restoring is all that can be undone", window.undo(), 0);
        Check.due("oilOf", window.oilOf(0), 0);
        MoonComplaintWindow empty = Check.loaded("moon 14 0 7;clouds 0;clerk 1 0;");
        empty.saveSnapshot(1);
        empty.refill(0, 1);
        empty.restoreSnapshot(1);
        Check.due("what could be undone can be still", empty.undo(), 1);
        Check.due("oilOf", empty.oilOf(0), 1);
        Check.due("undo", empty.undo(), 0);
        Check.due("oilOf", empty.oilOf(0), 0);
    }

    /** A restoring is among the latest 8 changes and is undone like any other. */
    private static void restoringIsUndone() {
        MoonComplaintWindow window = withChanges(7);
        window.saveSnapshot(0);
        window.restoreSnapshot(0);
        window.restoreSnapshot(0);
        for (int left = 7; left >= 0; left--) {
            Check.due("undo", window.undo(), left);
        }
        // Nine changes were made, so the first can't be undone.
        Check.due("oilOf", window.oilOf(0), 1);
    }

    private static MoonComplaintWindow full() {
        StringBuilder text = new StringBuilder("moon 8 2 6;clouds 0 1 2 3 4 5 6 7 8 9;"
                + "clerk 9 99;clerk 9 99;clerk 9 99;clerk 9 99;");
        for (int i = 10; i < 33; i++) {
            text.append("complaint ").append(i).append("face 9;");
        }
        return Check.loaded(text.toString());
    }

    /** The last row of everything is undone and restored too. */
    private static void fullOffices() {
        Refused.dueNoChange("the 5th clerk and undo", ChangeBoundsTest::full, w -> w.addClerk(5, 50) + w.undo());
        Refused.dueNoChange("the 24th complaint and undo", ChangeBoundsTest::full,
                w -> w.fileComplaint(99, 2, 7) + w.undo());
        Refused.dueNoChange("the 10th cloud and undo", ChangeBoundsTest::full, w -> w.setCloud(9, 1) + w.undo());
        MoonComplaintWindow window = full();
        window.addClerk(5, 50);
        window.fileComplaint(99, 2, 7);
        window.saveSnapshot(1);
        window.undo();
        window.undo();
        window.addClerk(1, 1);
        window.fileComplaint(1, 1, 1);
        window.giveUp(23);
        window.setCloud(9, 1);
        window.restoreSnapshot(1);
        Check.due("the 5th clerk is restored", window.skillOf(4) * 100 + window.oilOf(4), 550);
        Check.due("the 24th complaint is restored", window.personOf(23) * 10 + window.angerOf(23), 997);
        Check.due("it waits", window.isWaiting(23), true);
        Check.due("the 10th cloud is restored", window.cloudOf(9), 9);
        window.undo();
        Check.due("the 5th clerk is undone", window.skillOf(4) * 100 + window.oilOf(4), 101);
        Check.due("the 24th complaint is undone", window.personOf(23) * 10 + window.angerOf(23), 11);
        Check.due("it is given up", window.isGivenUp(23), true);
        Check.due("the 10th cloud is undone", window.cloudOf(9), 1);
    }

    /** "If several exceptions apply, the one that comes first in the throws clause is thrown." */
    private static void severalExceptionsAtOnce() {
        Refused.Past never = () -> Check.loaded("moon 14 0 7;clouds 9;");
        Refused.due("nextJustified of no sort", WRONG_ARGUMENT, never, w -> w.nextJustified(4));
        Refused.due("waitingOf of no person", WRONG_ARGUMENT, never, w -> w.waitingOf(100, 0));
        Refused.due("waitingOf of no sort", WRONG_ARGUMENT, never, w -> w.waitingOf(0, -1));
        Refused.due("closedIn", WRONG_INDEX, never, w -> w.closedIn(0));
        Refused.due("clerkOf", WRONG_INDEX, never, w -> w.clerkOf(0));
        Refused.due("nightsToClose", WRONG_INDEX, never, w -> w.nightsToClose(0));
        Refused.due("willBeAnswered", WRONG_INDEX, never, w -> w.willBeAnswered(0) ? 1 : 0);
        Refused.due("giveUp", WRONG_INDEX, never, w -> w.giveUp(0));
        Refused.due("refill of no clerk by none", WRONG_INDEX, never, w -> w.refill(0, 0));
        Refused.due("refill of no clerk by too much", WRONG_INDEX, ChangeBoundsTest::past, w -> w.refill(-1, 100));
        Refused.due("setCloud of no element to 10", WRONG_INDEX, never, w -> w.setCloud(1, 10));
        Refused.due("setCloud of no element to -1", WRONG_INDEX, ChangeBoundsTest::past, w -> w.setCloud(-1, -1));
        Refused.due("restoreSnapshot of no slot", WRONG_INDEX, MoonComplaintWindow::new, w -> w.restoreSnapshot(2));
        fileComplaintWithSeveral();
        addClerkWithSeveral();
        Refused.Past last = () -> MoonBoundsTest.inNight("moon 14 0 7;clouds 9;", 999);
        for (int count : new int[] {0, 61, -1, Integer.MIN_VALUE, Integer.MAX_VALUE}) {
            Refused.due("endNights " + count + " in the last night", WRONG_ARGUMENT, last, w -> w.endNights(count));
        }
    }

    private static void fileComplaintWithSeveral() {
        Refused.Past past = () -> {
            MoonComplaintWindow window = full();
            window.fileComplaint(50, 0, 1);
            return window;
        };
        Refused.due("of 24 and a waiting one", WRONG_STATE, past, w -> w.fileComplaint(50, 0, 1));
        Refused.due("and of a wrong person", WRONG_ARGUMENT, past, w -> w.fileComplaint(100, 0, 1));
        Refused.due("and of a wrong sort", WRONG_ARGUMENT, past, w -> w.fileComplaint(50, 4, 1));
        Refused.due("and of a wrong anger", WRONG_ARGUMENT, past, w -> w.fileComplaint(50, 0, 0));
        Refused.due("a waiting one, of a wrong anger", WRONG_ARGUMENT, MoonComplaintWindow::new,
                w -> w.fileComplaint(4, 0, 10));
        Refused.due("all three are wrong", WRONG_ARGUMENT, past, w -> w.fileComplaint(-1, -1, -1));
    }

    private static void addClerkWithSeveral() {
        Refused.Past past = () -> {
            MoonComplaintWindow window = full();
            window.addClerk(1, 1);
            return window;
        };
        Refused.due("a 6th clerk", WRONG_STATE, past, w -> w.addClerk(1, 1));
        Refused.due("of a wrong skill", WRONG_ARGUMENT, past, w -> w.addClerk(10, 1));
        Refused.due("of wrong oil", WRONG_ARGUMENT, past, w -> w.addClerk(1, -1));
        Refused.due("of both", WRONG_ARGUMENT, past, w -> w.addClerk(0, 100));
    }

    /** "except that load empties the input buffer and sets the error" */
    private static void aLoadWithAnError() {
        Refused.dueOfLoad("an error behind an error", () -> {
            MoonComplaintWindow window = past();
            Check.put(window, "#");
            return window;
        }, 20);
        Refused.dueOfLoad("an error at the last token", () -> {
            MoonComplaintWindow window = past();
            Check.put(window, "clerk 1 1;complaint 1 tide 1");
            return window;
        }, 48);
        Refused.dueOfLoad("an error in full offices", () -> {
            MoonComplaintWindow window = full();
            window.fileComplaint(50, 0, 1);
            Check.put(window, "moon 1 0 0;clouds 1 2 3 4 5 6 7 8 9 0;clerk 1 1;complaint 3 face 0;");
            return window;
        }, 65);
    }
}
