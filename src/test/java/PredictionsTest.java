/** Promises 49 to 51. */
public final class PredictionsTest {
    private static final int[] WRONG_COMPLAINTS = {-1, 4, Integer.MIN_VALUE, Integer.MAX_VALUE};

    public static void main(String[] args) {
        ofTheNewObject();
        wrongComplaints();
        changeNothing();
        tonight();
        eachOnItsOwn();
        behindClosedOnes();
        dismissedAndGivenUp();
        beyondTheLastNight();
        asItComesTrue();
        Check.end("PredictionsTest");
    }

    private static void duePrediction(MoonComplaintWindow window, int complaint, int nights, boolean answered) {
        Check.due("nightsToClose " + complaint, window.nightsToClose(complaint), nights);
        Check.due("willBeAnswered " + complaint, window.willBeAnswered(complaint), answered);
    }

    private static void ofTheNewObject() {
        MoonComplaintWindow window = new MoonComplaintWindow();
        Check.due("answersTonight", window.answersTonight(), 2);
        duePrediction(window, 1, 1, true);
        duePrediction(window, 2, 1, true);
        // FACE comes in night 6 and costs 4, for which the second clerk has the oil; GLARE comes in night 9
        // and costs 3: the first clerk has 8 drops left.
        duePrediction(window, 3, 7, true);
        duePrediction(window, 0, 10, true);
    }

    private static void wrongComplaints() {
        MoonComplaintWindow window = new MoonComplaintWindow();
        Class<IndexOutOfBoundsException> wrong = IndexOutOfBoundsException.class;
        for (int complaint : WRONG_COMPLAINTS) {
            Check.dueThrow("nightsToClose " + complaint, wrong, () -> window.nightsToClose(complaint));
            Check.dueThrow("willBeAnswered " + complaint, wrong, () -> window.willBeAnswered(complaint) ? 1 : 0);
        }
        window.giveUp(0);
        window.endNights(1);
        for (int complaint = 0; complaint < 3; complaint++) {
            int closed = complaint;
            Check.dueThrow("nightsToClose " + closed, IllegalStateException.class, () -> window.nightsToClose(closed));
            Check.dueThrow("willBeAnswered " + closed, IllegalStateException.class,
                    () -> window.willBeAnswered(closed) ? 1 : 0);
        }
    }

    private static void changeNothing() {
        MoonComplaintWindow window = new MoonComplaintWindow();
        window.setTideLimit(7);
        window.endNights(2);
        String before = Check.state(window);
        window.answersTonight();
        window.nightsToClose(0);
        window.willBeAnswered(3);
        Check.due("state", Check.state(window), before);
        Check.due("undo", window.undo(), 1);
        Check.due("undo", window.undo(), 0);
    }

    private static void tonight() {
        // Two sorts are justified in night 0; one clerk answers one, the other has no oil.
        MoonComplaintWindow window = Check.loaded("moon 14 0 7;clouds 0;clerk 1 6;clerk 9 5;"
                + "complaint 1 gloom 1;complaint 2 tide 2;complaint 3 face 3;");
        Check.due("answersTonight", window.answersTonight(), 1);
        window.refill(1, 7);
        Check.due("answersTonight", window.answersTonight(), 2);
        window.setGloomLimit(0);
        window.setTideLimit(7);
        window.endNights(1);
        Check.due("nothing left that is justified", window.answersTonight(), 0);
        Check.due("without complaints", Check.loaded("moon 14 0 7;clouds 0;clerk 9 99;").answersTonight(), 0);
        Check.due("without clerks", Check.loaded("moon 14 0 7;clouds 0;complaint 1 tide 1;").answersTonight(), 0);
    }

    /** No prediction lives on what an earlier one worked out. */
    private static void eachOnItsOwn() {
        Check.due("willBeAnswered 3", new MoonComplaintWindow().willBeAnswered(3), true);
        MoonComplaintWindow window = new MoonComplaintWindow();
        Check.due("willBeAnswered 3", window.willBeAnswered(3), true);
        window.setCloud(0, 3);
        Check.due("willBeAnswered 3 under clouds", window.willBeAnswered(3), false);
        window.setCloud(0, 0);
        Check.due("willBeAnswered 3", window.willBeAnswered(3), true);
        Check.due("answersTonight", window.answersTonight(), 2);
        Check.due("nightsToClose 3", window.nightsToClose(3), 7);
    }

    /** Each is told until it is closed itself, whichever of the others are closed before or after it. */
    private static void behindClosedOnes() {
        MoonComplaintWindow window = new MoonComplaintWindow();
        window.giveUp(0);
        duePrediction(window, 1, 1, true);
        duePrediction(window, 3, 7, true);
        window.fileComplaint(50, 0, 1);
        duePrediction(window, 4, 10, true);
        // One a night, the angriest first; the full moon, which GLARE waits for, comes in night 14.
        MoonComplaintWindow slow = Check.loaded("moon 14 3 7;clouds 0;clerk 1 99;"
                + "complaint 1 gloom 9;complaint 2 gloom 8;complaint 3 gloom 7;complaint 4 gloom 6;complaint 5 glare 1;");
        for (int complaint = 0; complaint < 4; complaint++) {
            duePrediction(slow, complaint, complaint + 1, true);
        }
        duePrediction(slow, 4, 15, true);
    }

    private static void dismissedAndGivenUp() {
        MoonComplaintWindow window = Check.loaded("moon 14 0 7;clouds 9;clerk 1 12;"
                + "complaint 1 glare 1;complaint 2 face 9;complaint 3 glare 9;");
        Check.due("a dismissal is no answer", window.answersTonight(), 0);
        duePrediction(window, 0, 15, false);
        duePrediction(window, 1, 16, false);
        // Given up when its age becomes 56.
        duePrediction(window, 2, 56, false);
        window.endNights(14);
        Check.due("a dismissal is no answer", window.answersTonight(), 0);
        duePrediction(window, 0, 1, false);
        window.fileComplaint(9, 3, 9);
        duePrediction(window, 2, 42, false);
        duePrediction(window, 3, 56, false);
        window.endNights(41);
        duePrediction(window, 2, 1, false);
        duePrediction(window, 3, 15, false);
    }

    private static void beyondTheLastNight() {
        MoonComplaintWindow window = Check.loaded("moon 14 0 7;clouds 0;clerk 9 99;");
        for (int i = 0; i < 16; i++) {
            window.endNights(60);
        }
        window.endNights(39);
        window.fileComplaint(1, 0, 1);
        window.fileComplaint(1, 1, 1);
        window.fileComplaint(1, 2, 1);
        window.fileComplaint(1, 3, 1);
        Check.due("answersTonight in night 999", window.answersTonight(), 1);
        // Night 999 has the age 19: FACE at once, TIDE and GLOOM in night 1008; there the clerk dismisses
        // nothing, since nobody waited for 14 nights; in night 1013 the GLARE one is dismissed.
        duePrediction(window, 3, 1, true);
        duePrediction(window, 2, 10, true);
        duePrediction(window, 1, 10, true);
        duePrediction(window, 0, 15, false);
        Check.dueThrow("endNights", IllegalStateException.class, () -> window.endNights(1));
    }

    /** What is predicted comes true if nothing else happens. */
    private static void asItComesTrue() {
        String text = "moon 9 1 6;clouds 1 4 0 7 2;clerk 4 40;clerk 1 60;"
                + "complaint 1 glare 1;complaint 1 gloom 2;complaint 1 tide 6;complaint 1 face 9;"
                + "complaint 2 glare 7;complaint 2 gloom 2;complaint 2 tide 3;complaint 2 face 4;"
                + "complaint 3 glare 7;complaint 3 gloom 5;complaint 3 tide 5;complaint 3 face 1;";
        for (int complaint = 0; complaint < 12; complaint++) {
            MoonComplaintWindow window = Check.loaded(text);
            int nights = window.nightsToClose(complaint);
            boolean answered = window.willBeAnswered(complaint);
            for (int night = 1; night < nights; night++) {
                int tonight = window.answersTonight();
                Check.due("answersTonight", window.endNights(1), tonight);
                Check.due("still waiting", window.isWaiting(complaint), true);
            }
            window.endNights(1);
            Check.due("closed", window.isWaiting(complaint), false);
            Check.due("answered", window.isAnswered(complaint), answered);
        }
    }
}
