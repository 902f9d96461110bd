/** Promise 60, and how a night ends. */
public final class NightsTest {
    public static void main(String[] args) {
        countsAndTheLastNight();
        angriestFirst();
        answersComeBeforeDismissals();
        oldestIsDismissed();
        clerksWorkInTheirOrder();
        oilIsLookedAtForEach();
        skills();
        angerAndAge();
        fullOffice();
        Check.end("NightsTest");
    }

    private static void countsAndTheLastNight() {
        MoonComplaintWindow window = new MoonComplaintWindow();
        Class<IllegalArgumentException> wrong = IllegalArgumentException.class;
        Check.dueThrow("endNights(0)", wrong, () -> window.endNights(0));
        Check.dueThrow("endNights(-1)", wrong, () -> window.endNights(-1));
        Check.dueThrow("endNights(61)", wrong, () -> window.endNights(61));
        Check.dueThrow("endNights(MAX)", wrong, () -> window.endNights(Integer.MAX_VALUE));
        Check.dueThrow("endNights(MIN)", wrong, () -> window.endNights(Integer.MIN_VALUE));
        Check.due("night", window.night(), 0);
        Check.due("endNights(60)", window.endNights(60), 4);
        Check.due("night", window.night(), 60);
        for (int i = 0; i < 15; i++) {
            window.endNights(60);
        }
        Check.due("night", window.night(), 960);
        Check.dueThrow("endNights(40)", IllegalStateException.class, () -> window.endNights(40));
        Check.dueThrow("endNights(61) too far", wrong, () -> window.endNights(61));
        Check.due("night", window.night(), 960);
        Check.due("endNights(39)", window.endNights(39), 0);
        Check.due("night", window.night(), 999);
        Check.dueThrow("endNights(1)", IllegalStateException.class, () -> window.endNights(1));
        Check.dueThrow("endNights(0)", wrong, () -> window.endNights(0));
        Check.due("undo", window.undo(), 7);
        Check.due("night", window.night(), 960);
    }

    private static void angriestFirst() {
        MoonComplaintWindow window = Check.loaded("moon 14 0 7;clouds 0;clerk 1 99;"
                + "complaint 1 gloom 4;complaint 2 gloom 7;complaint 3 tide 7;complaint 4 face 9;");
        Check.due("endNights", window.endNights(1), 1);
        Check.due("the greatest anger, the lowest number", Check.written(window, 2), "1:a\n");
        Check.due("not the angriest of all, which is not justified", Check.written(window, 4), "3:w\n");
    }

    private static void answersComeBeforeDismissals() {
        // In night 14 the full moon justifies the new GLARE one; the old GLOOM one is dismissed behind it.
        MoonComplaintWindow window = Check.loaded("moon 14 0 7;clouds 0;clerk 3 99;");
        window.endNights(1);
        window.fileComplaint(1, 1, 9);
        window.endNights(14);
        Check.due("night", window.night(), 15);
        window.undo();
        window.endNights(13);
        // Night 14: the age of the GLOOM one is 13 only.
        window.fileComplaint(2, 0, 1);
        Check.due("endNights", window.endNights(1), 1);
        Check.due("not dismissed yet", window.isWaiting(0), true);
        window.setGlareLimit(13);
        window.fileComplaint(2, 0, 1);
        // Night 15 has the light 13.
        Check.due("endNights", window.endNights(1), 1);
        Check.due("answered", window.isAnswered(2), true);
        Check.due("dismissed", window.isDismissed(0), true);
        Check.due("closedIn", window.closedIn(0), 15);
        // 2 drops in night 14, twice 2 in night 15.
        Check.due("oilUsed: a dismissal costs too", window.oilUsed(), 6);
    }

    private static void oldestIsDismissed() {
        MoonComplaintWindow window = Check.loaded("moon 14 0 7;clouds 9;clerk 1 99;complaint 1 face 1;");
        window.endNights(2);
        window.fileComplaint(2, 3, 9);
        window.fileComplaint(3, 3, 9);
        window.endNights(12);
        Check.due("night", window.night(), 14);
        window.endNights(1);
        Check.due("the age, not the anger", window.isDismissed(0), true);
        window.endNights(1);
        Check.due("none has the age of 14 in night 15", window.dismissedCount(), 1);
        window.endNights(1);
        Check.due("the lowest number", window.isDismissed(1), true);
        Check.due("one a night", window.isWaiting(2), true);
        window.endNights(1);
        Check.due("then the next", window.isDismissed(2), true);
        Check.due("closedIn", window.closedIn(2), 17);
    }

    private static void clerksWorkInTheirOrder() {
        MoonComplaintWindow window = Check.loaded("moon 14 0 7;clouds 0;clerk 1 5;clerk 1 99;clerk 9 99;"
                + "complaint 1 gloom 1;complaint 2 gloom 2;");
        Check.due("endNights", window.endNights(1), 2);
        Check.due("the first has too little oil", window.clerkOf(1), 1);
        Check.due("the third takes what is left", window.clerkOf(0), 2);
        Check.due("the oil of the first stays", window.oilOf(0), 5);
        Check.due("no oil is used without work", window.oilOf(2), 93);
    }

    private static void oilIsLookedAtForEach() {
        // Oil for one at a cost of 6, although the skill is for four; a cost of 2 in night 14.
        MoonComplaintWindow window = Check.loaded("moon 14 0 0;clouds 0;clerk 9 11;"
                + "complaint 1 tide 1;complaint 2 tide 2;complaint 3 tide 3;complaint 4 tide 4;");
        Check.due("endNights", window.endNights(1), 1);
        Check.due("oilOf", window.oilOf(0), 5);
        Check.due("no oil for a cost of 6", window.endNights(2), 0);
        Check.due("a cost of 5", window.endNights(1), 1);
        Check.due("oilOf", window.oilOf(0), 0);
        Check.due("oilUsed", window.oilUsed(), 11);
        window.endNights(10);
        window.refill(0, 3);
        Check.due("a cost of 2 in night 14", window.endNights(1), 1);
        Check.due("oilOf", window.oilOf(0), 1);
    }

    private static void skills() {
        int[] due = {1, 1, 2, 2, 2, 3, 3, 3, 4};
        for (int skill = 1; skill <= 9; skill++) {
            MoonComplaintWindow window = Check.loaded("moon 14 0 7;clouds 0;clerk " + skill + " 99;"
                    + "complaint 1 tide 1;complaint 2 tide 2;complaint 3 tide 3;complaint 4 tide 4;complaint 5 tide 5;");
            Check.due("skill " + skill, window.endNights(1), due[skill - 1]);
        }
    }

    /** As many complaints, clerks and clouds as there may be. */
    private static void fullOffice() {
        StringBuilder text = new StringBuilder("moon 14 0 7;clouds 9 9 9 9 9 9 9 9 9 9;");
        for (int i = 0; i < 5; i++) {
            text.append("clerk 9 99;");
        }
        for (int i = 0; i < 24; i++) {
            text.append("complaint ").append(i).append("gloom 1;");
        }
        MoonComplaintWindow window = Check.loaded(text.toString());
        Check.due("oldest", window.oldest(), 0);
        Check.due("angriest", window.angriest(), 0);
        Check.due("darkestClerk", window.darkestClerk(), 0);
        Check.dueThrow("waitingOf", java.util.NoSuchElementException.class, () -> window.waitingOf(99, 0));
        Check.due("complaintsOf", window.complaintsOf(23), 1);
        Check.due("nightsToClose", window.nightsToClose(23), 2);
        Check.due("answersTonight", window.answersTonight(), 20);
        Check.due("endNights", window.endNights(1), 20);
        Check.due("answeredBy", window.answeredBy(4), 4);
        Check.due("comfort", window.comfort(), 20);
        Check.due("meanWait", window.meanWait(), 0.0);
        Check.due("waitingCount", window.waitingCount(), 4);
        Check.due("endNights", window.endNights(1), 4);
        Check.due("meanWait", window.meanWait(), 4.0 / 24.0);
        Check.due("oilUsed", window.oilUsed(), 144);
        Check.due("undo", window.undo(), 1);
        Check.due("waitingCount", window.waitingCount(), 4);
    }

    private static void angerAndAge() {
        MoonComplaintWindow window = Check.loaded("moon 14 0 7;clouds 9;complaint 1 face 1;complaint 2 face 8;");
        window.endNights(3);
        window.fileComplaint(3, 3, 5);
        window.endNights(3);
        Check.due("night 6", window.angerOf(0), 1);
        window.endNights(1);
        Check.due("night 7", window.angerOf(0), 2);
        Check.due("night 7", window.angerOf(1), 9);
        Check.due("night 7, filed in 3", window.angerOf(2), 5);
        window.endNights(3);
        Check.due("night 10, filed in 3", window.angerOf(2), 6);
        window.endNights(4);
        Check.due("night 14", window.angerOf(0), 3);
        Check.due("at most 9", window.angerOf(1), 9);
        window.endNights(42);
        Check.due("night 56", window.givenUpCount(), 2);
        Check.due("of these the anger", window.angerOf(0), 9);
        window.endNights(2);
        Check.due("night 58, filed in 3", window.isWaiting(2), true);
        window.endNights(1);
        Check.due("night 59, filed in 3", window.isGivenUp(2), true);
        Check.due("closedIn", window.closedIn(2), 59);
    }
}
