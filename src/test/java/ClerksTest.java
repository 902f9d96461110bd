import java.util.NoSuchElementException;

/** Promises 39 to 48. */
public final class ClerksTest {
    private static final int[] WRONG_CLERKS = {-1, 2, 5, Integer.MIN_VALUE, Integer.MAX_VALUE};

    public static void main(String[] args) {
        properties();
        wrongClerks();
        darkestClerk();
        answeredByAndOil();
        oilCost();
        totals();
        Check.end("ClerksTest");
    }

    private static void properties() {
        MoonComplaintWindow window = new MoonComplaintWindow();
        Check.due("clerkCount", window.clerkCount(), 2);
        Check.due("skillOf 0", window.skillOf(0), 3);
        Check.due("oilOf 0", window.oilOf(0), 20);
        Check.due("skillOf 1", window.skillOf(1), 7);
        Check.due("oilOf 1", window.oilOf(1), 5);
        Check.due("answeredBy 0", window.answeredBy(0), 0);
        window.addClerk(9, 99);
        Check.due("clerkCount", window.clerkCount(), 3);
        Check.due("skillOf 2", window.skillOf(2), 9);
        Check.due("oilOf 2", window.oilOf(2), 99);
        Check.due("clerkCount of none", Check.loaded("moon 8 2 6;clouds 0;").clerkCount(), 0);
    }

    private static void wrongClerks() {
        MoonComplaintWindow window = new MoonComplaintWindow();
        Class<IndexOutOfBoundsException> wrong = IndexOutOfBoundsException.class;
        for (int clerk : WRONG_CLERKS) {
            Check.dueThrow("skillOf " + clerk, wrong, () -> window.skillOf(clerk));
            Check.dueThrow("oilOf " + clerk, wrong, () -> window.oilOf(clerk));
            Check.dueThrow("answeredBy " + clerk, wrong, () -> window.answeredBy(clerk));
        }
        MoonComplaintWindow none = Check.loaded("moon 8 2 6;clouds 0;");
        Check.dueThrow("skillOf 0 of none", wrong, () -> none.skillOf(0));
    }

    private static void darkestClerk() {
        Check.due("darkestClerk", new MoonComplaintWindow().darkestClerk(), 1);
        MoonComplaintWindow window = Check.loaded("moon 8 2 6;clouds 0;clerk 1 99;");
        Check.due("darkestClerk", window.darkestClerk(), 0);
        window.addClerk(1, 7);
        window.addClerk(1, 7);
        Check.due("the lowest of several", window.darkestClerk(), 1);
        window.addClerk(1, 0);
        Check.due("darkestClerk", window.darkestClerk(), 3);
        window.refill(3, 8);
        Check.due("darkestClerk", window.darkestClerk(), 1);
        MoonComplaintWindow none = Check.loaded("moon 8 2 6;clouds 0;");
        Check.dueThrow("darkestClerk of none", NoSuchElementException.class, () -> none.darkestClerk());
    }

    private static void answeredByAndOil() {
        // New moon: the cost is 6. All are GLOOM, which is justified in night 0.
        MoonComplaintWindow window = Check.loaded("moon 8 2 7;clouds 0;clerk 2 99;clerk 3 99;clerk 9 18;"
                + "complaint 1 gloom 1;complaint 2 gloom 2;complaint 3 gloom 3;complaint 4 gloom 4;"
                + "complaint 5 gloom 5;complaint 6 gloom 6;complaint 7 gloom 7;complaint 8 gloom 8;complaint 9 face 9;");
        Check.due("endNights", window.endNights(1), 6);
        Check.due("a skill of 2 is for one", window.answeredBy(0), 1);
        Check.due("a skill of 3 is for two", window.answeredBy(1), 2);
        Check.due("oil for three", window.answeredBy(2), 3);
        Check.due("the angriest first", window.clerkOf(7), 0);
        Check.due("then the next", window.clerkOf(6), 1);
        Check.due("then the next", window.clerkOf(5), 1);
        Check.due("then the next", window.clerkOf(4), 2);
        Check.due("then the next", window.clerkOf(2), 2);
        Check.due("this one waits on", window.isWaiting(1), true);
        Check.due("oilOf 0", window.oilOf(0), 93);
        Check.due("oilOf 1", window.oilOf(1), 87);
        Check.due("oilOf 2", window.oilOf(2), 0);
        Check.due("oilUsed", window.oilUsed(), 36);
        window.refill(2, 50);
        Check.due("oilUsed: filling is no use", window.oilUsed(), 36);
        // Night 1 has a visible light of 1, so it costs 6 again; two are left to answer.
        Check.due("endNights", window.endNights(1), 2);
        Check.due("answeredBy 0", window.answeredBy(0), 2);
        Check.due("answeredBy 1", window.answeredBy(1), 3);
        Check.due("answeredBy 2", window.answeredBy(2), 3);
        Check.due("oilUsed", window.oilUsed(), 48);
        dismissedAreNotAnswered();
    }

    private static void dismissedAreNotAnswered() {
        MoonComplaintWindow window = Check.loaded("moon 14 0 7;clouds 9;clerk 1 99;complaint 1 glare 1;");
        Check.due("endNights", window.endNights(15), 0);
        Check.due("dismissed", window.dismissedCount(), 1);
        Check.due("answeredBy", window.answeredBy(0), 0);
        // Night 14 has a visible light of 1 under 9 clouds.
        Check.due("oilUsed", window.oilUsed(), 6);
        Check.due("comfort", window.comfort(), 0);
    }

    private static void oilCost() {
        MoonComplaintWindow window = Check.loaded("moon 14 0 7;clouds 0;");
        int[] costs = {6, 6, 6, 5, 5, 5, 4, 4, 4, 3, 3, 3, 2, 2, 2, 2, 2, 3, 3, 3, 4, 4, 4, 5, 5, 5, 6, 6, 6, 6, 6, 5};
        for (int cost : costs) {
            Check.due("oilCost in night " + window.night(), window.oilCost(), cost);
            window.endNights(1);
        }
        MoonComplaintWindow cloudy = Check.loaded("moon 14 0 7;clouds 5;");
        cloudy.endNights(14);
        // A visible light of 7.
        Check.due("oilCost under clouds", cloudy.oilCost(), 4);
    }

    private static void totals() {
        MoonComplaintWindow window = new MoonComplaintWindow();
        Check.due("comfort of none", window.comfort(), 0);
        Check.due("meanWait of none", window.meanWait(), 0.0);
        Check.due("answeredShare of none", window.answeredShare(), 0.0f);
        window.giveUp(0);
        Check.due("meanWait of none", window.meanWait(), 0.0);
        Check.due("answeredShare of none answered", window.answeredShare(), 0.0f);
        window.endNights(1);
        Check.due("comfort", window.comfort(), 8);
        Check.due("meanWait", window.meanWait(), 0.0);
        Check.due("answeredShare", window.answeredShare(), 2.0f / 3.0f);
        window.endNights(6);
        // The FACE one of anger 9 was answered in night 6.
        Check.due("comfort", window.comfort(), 17);
        Check.due("meanWait", window.meanWait(), 6.0 / 3.0);
        Check.due("answeredShare", window.answeredShare(), 3.0f / 4.0f);
        thirds();
        firstWaited();
    }

    private static void firstWaited() {
        // Night 4 is the first with a light of 4; the cost is 5.
        MoonComplaintWindow window = Check.loaded("moon 14 0 7;clouds 0;clerk 9 99;complaint 1 face 3;complaint 2 face 4;");
        window.endNights(3);
        window.fileComplaint(3, 3, 1);
        window.endNights(2);
        Check.due("meanWait", window.meanWait(), 9.0 / 3.0);
        Check.due("comfort", window.comfort(), 8);
        Check.due("answeredShare", window.answeredShare(), 1.0f);
    }

    private static void thirds() {
        // Costs of 6 in every night, GLOOM in every night, one answer a night: waits of 0, 1 and 3 nights.
        MoonComplaintWindow window = Check.loaded("moon 14 1 7;clouds 9;clerk 1 99;complaint 1 gloom 9;complaint 2 gloom 8;");
        window.endNights(2);
        window.fileComplaint(3, 1, 1);
        window.fileComplaint(4, 1, 2);
        window.fileComplaint(5, 1, 1);
        window.endNights(2);
        window.giveUp(4);
        // Number 3 was answered in night 2, number 2 in night 3: waits of 0, 1, 0, 1.
        Check.due("meanWait", window.meanWait(), 0.5);
        Check.due("answeredShare", window.answeredShare(), 4.0f / 5.0f);
        window.fileComplaint(6, 1, 1);
        window.fileComplaint(7, 1, 2);
        window.endNights(2);
        // Number 6 in night 4, number 5 in night 5: the sum is 3 in six.
        Check.due("meanWait", window.meanWait(), 3.0 / 6.0);
        Check.due("answeredShare", window.answeredShare(), 6.0f / 7.0f);
        window.fileComplaint(8, 1, 1);
        window.endNights(1);
        Check.due("meanWait", window.meanWait(), 3.0 / 7.0);
        Check.due("answeredShare", window.answeredShare(), 7.0f / 8.0f);
        Check.due("comfort", window.comfort(), 9 + 8 + 2 + 1 + 2 + 1 + 1);
    }
}
