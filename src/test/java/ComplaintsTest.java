import java.util.NoSuchElementException;

/** Promises 20 to 38. */
public final class ComplaintsTest {
    private static final int[] WRONG_COMPLAINTS = {-1, 4, 24, Integer.MIN_VALUE, Integer.MAX_VALUE};

    public static void main(String[] args) {
        properties();
        wrongComplaints();
        statesAndClosing();
        waitingOf();
        counts();
        oldestAndAngriest();
        complaintsOf();
        Check.end("ComplaintsTest");
    }

    private static void properties() {
        MoonComplaintWindow window = new MoonComplaintWindow();
        Check.due("complaintCount", window.complaintCount(), 4);
        int[][] due = {{4, 0, 5}, {4, 1, 2}, {9, 2, 6}, {30, 3, 9}};
        for (int complaint = 0; complaint < due.length; complaint++) {
            Check.due("personOf " + complaint, window.personOf(complaint), due[complaint][0]);
            Check.due("sortOf " + complaint, window.sortOf(complaint), due[complaint][1]);
            Check.due("angerOf " + complaint, window.angerOf(complaint), due[complaint][2]);
            Check.due("filedIn " + complaint, window.filedIn(complaint), 0);
        }
        window.endNights(3);
        window.fileComplaint(77, 2, 3);
        Check.due("complaintCount", window.complaintCount(), 5);
        Check.due("personOf", window.personOf(4), 77);
        Check.due("sortOf", window.sortOf(4), 2);
        Check.due("angerOf", window.angerOf(4), 3);
        Check.due("filedIn", window.filedIn(4), 3);
        Check.due("complaintCount of none", Check.loaded("moon 8 2 6;clouds 0;").complaintCount(), 0);
    }

    private static void wrongComplaints() {
        MoonComplaintWindow window = new MoonComplaintWindow();
        Class<IndexOutOfBoundsException> wrong = IndexOutOfBoundsException.class;
        for (int complaint : WRONG_COMPLAINTS) {
            Check.dueThrow("personOf " + complaint, wrong, () -> window.personOf(complaint));
            Check.dueThrow("sortOf " + complaint, wrong, () -> window.sortOf(complaint));
            Check.dueThrow("angerOf " + complaint, wrong, () -> window.angerOf(complaint));
            Check.dueThrow("filedIn " + complaint, wrong, () -> window.filedIn(complaint));
            Check.dueThrow("isWaiting " + complaint, wrong, () -> window.isWaiting(complaint) ? 1 : 0);
            Check.dueThrow("isAnswered " + complaint, wrong, () -> window.isAnswered(complaint) ? 1 : 0);
            Check.dueThrow("isDismissed " + complaint, wrong, () -> window.isDismissed(complaint) ? 1 : 0);
            Check.dueThrow("isGivenUp " + complaint, wrong, () -> window.isGivenUp(complaint) ? 1 : 0);
            Check.dueThrow("closedIn " + complaint, wrong, () -> window.closedIn(complaint));
            Check.dueThrow("clerkOf " + complaint, wrong, () -> window.clerkOf(complaint));
        }
        MoonComplaintWindow none = Check.loaded("moon 8 2 6;clouds 0;");
        Check.dueThrow("personOf 0 of none", wrong, () -> none.personOf(0));
        Check.dueThrow("isWaiting 0 of none", wrong, () -> none.isWaiting(0) ? 1 : 0);
    }

    /** Checks the state by its letter: w, a, d or g. */
    private static void dueState(MoonComplaintWindow window, int complaint, char letter) {
        String what = " " + complaint + " in night " + window.night();
        Check.due("isWaiting" + what, window.isWaiting(complaint), letter == 'w');
        Check.due("isAnswered" + what, window.isAnswered(complaint), letter == 'a');
        Check.due("isDismissed" + what, window.isDismissed(complaint), letter == 'd');
        Check.due("isGivenUp" + what, window.isGivenUp(complaint), letter == 'g');
    }

    private static void statesAndClosing() {
        // Never justified but TIDE in night 0 and 14 (and so on); the cost is always 6, so the oil is for three.
        MoonComplaintWindow window = Check.loaded("moon 14 0 7;clouds 9 9 9 9 9 9 9;clerk 1 18;"
                + "complaint 1 glare 1;complaint 1 tide 3;complaint 2 face 5;complaint 3 face 5;");
        dueState(window, 1, 'w');
        Check.dueThrow("closedIn", NoSuchElementException.class, () -> window.closedIn(1));
        Check.dueThrow("clerkOf", NoSuchElementException.class, () -> window.clerkOf(1));
        window.endNights(1);
        dueState(window, 0, 'w');
        dueState(window, 1, 'a');
        Check.due("closedIn", window.closedIn(1), 0);
        Check.due("clerkOf", window.clerkOf(1), 0);
        Check.due("angerOf stays", window.angerOf(1), 3);
        window.endNights(13);
        dueState(window, 0, 'w');
        window.endNights(1);
        dueState(window, 0, 'd');
        Check.due("closedIn", window.closedIn(0), 14);
        Check.due("clerkOf", window.clerkOf(0), 0);
        dueState(window, 2, 'w');
        window.giveUp(3);
        dueState(window, 3, 'g');
        Check.due("closedIn", window.closedIn(3), 15);
        Check.dueThrow("clerkOf a given up one", NoSuchElementException.class, () -> window.clerkOf(3));
        window.endNights(1);
        dueState(window, 2, 'd');
        Check.due("angerOf stays", window.angerOf(1), 3);
        Check.due("angerOf grew twice, then stayed", window.angerOf(0), 3);
        givenUpByAge();
    }

    private static void givenUpByAge() {
        MoonComplaintWindow window = Check.loaded("moon 8 2 6;clouds 0;complaint 1 glare 1;complaint 2 glare 8;");
        window.endNights(55);
        dueState(window, 0, 'w');
        Check.due("angerOf", window.angerOf(0), 8);
        Check.due("angerOf", window.angerOf(1), 9);
        window.endNights(1);
        dueState(window, 0, 'g');
        Check.due("closedIn: the next night", window.closedIn(0), 56);
        Check.due("angerOf: given up behind the increase", window.angerOf(0), 9);
        Check.dueThrow("clerkOf", NoSuchElementException.class, () -> window.clerkOf(0));
        window.endNights(14);
        Check.due("closedIn", window.closedIn(0), 56);
        Check.due("angerOf", window.angerOf(0), 9);
    }

    private static void waitingOf() {
        MoonComplaintWindow window = new MoonComplaintWindow();
        Check.due("waitingOf(4, 0)", window.waitingOf(4, 0), 0);
        Check.due("waitingOf(4, 1)", window.waitingOf(4, 1), 1);
        Check.due("waitingOf(30, 3)", window.waitingOf(30, 3), 3);
        Check.dueThrow("waitingOf(4, 2)", NoSuchElementException.class, () -> window.waitingOf(4, 2));
        Check.dueThrow("waitingOf(0, 0)", NoSuchElementException.class, () -> window.waitingOf(0, 0));
        Check.dueThrow("waitingOf(99, 3)", NoSuchElementException.class, () -> window.waitingOf(99, 3));
        Check.dueThrow("waitingOf(-1, 0)", IllegalArgumentException.class, () -> window.waitingOf(-1, 0));
        Check.dueThrow("waitingOf(100, 0)", IllegalArgumentException.class, () -> window.waitingOf(100, 0));
        Check.dueThrow("waitingOf(4, -1)", IllegalArgumentException.class, () -> window.waitingOf(4, -1));
        Check.dueThrow("waitingOf(4, 4)", IllegalArgumentException.class, () -> window.waitingOf(4, 4));
        window.giveUp(1);
        Check.dueThrow("waitingOf a given up one", NoSuchElementException.class, () -> window.waitingOf(4, 1));
        window.fileComplaint(4, 1, 1);
        Check.due("waitingOf the new one", window.waitingOf(4, 1), 4);
    }

    private static void dueCounts(MoonComplaintWindow window, int waiting, int answered, int dismissed, int givenUp) {
        Check.due("waitingCount", window.waitingCount(), waiting);
        Check.due("answeredCount", window.answeredCount(), answered);
        Check.due("dismissedCount", window.dismissedCount(), dismissed);
        Check.due("givenUpCount", window.givenUpCount(), givenUp);
    }

    private static void counts() {
        MoonComplaintWindow window = Check.loaded("moon 14 0 7;clouds 9 9 9 9 9 9 9;clerk 1 18;"
                + "complaint 1 glare 1;complaint 1 tide 3;complaint 2 face 5;complaint 3 face 5;complaint 4 face 5;");
        dueCounts(window, 5, 0, 0, 0);
        window.endNights(1);
        dueCounts(window, 4, 1, 0, 0);
        window.endNights(14);
        dueCounts(window, 3, 1, 1, 0);
        window.endNights(1);
        dueCounts(window, 2, 1, 2, 0);
        window.giveUp(3);
        dueCounts(window, 1, 1, 2, 1);
        window.endNights(40);
        dueCounts(window, 0, 1, 2, 2);
    }

    private static void oldestAndAngriest() {
        MoonComplaintWindow window = Check.loaded("moon 14 0 7;clouds 9;"
                + "complaint 1 glare 5;complaint 2 glare 7;complaint 3 glare 7;");
        Check.due("oldest", window.oldest(), 0);
        Check.due("angriest", window.angriest(), 1);
        window.endNights(1);
        window.fileComplaint(1, 3, 9);
        window.fileComplaint(2, 3, 9);
        Check.due("oldest", window.oldest(), 0);
        Check.due("angriest", window.angriest(), 3);
        window.giveUp(0);
        Check.due("oldest", window.oldest(), 1);
        window.giveUp(3);
        Check.due("angriest", window.angriest(), 4);
        window.giveUp(1);
        window.giveUp(2);
        Check.due("oldest", window.oldest(), 4);
        window.giveUp(4);
        Check.dueThrow("oldest of none", NoSuchElementException.class, () -> window.oldest());
        Check.dueThrow("angriest of none", NoSuchElementException.class, () -> window.angriest());
        for (int sort = 0; sort < 4; sort++) {
            window.fileComplaint(50, sort, 1 + sort);
            Check.due("angriest of sort " + sort, window.angriest(), 5 + sort);
            Check.due("oldest", window.oldest(), 5);
        }
        MoonComplaintWindow none = Check.loaded("moon 8 2 6;clouds 0;");
        Check.dueThrow("oldest of none", NoSuchElementException.class, () -> none.oldest());
        Check.dueThrow("angriest of none", NoSuchElementException.class, () -> none.angriest());
    }

    private static void complaintsOf() {
        MoonComplaintWindow window = new MoonComplaintWindow();
        Check.due("complaintsOf(4)", window.complaintsOf(4), 2);
        Check.due("complaintsOf(9)", window.complaintsOf(9), 1);
        Check.due("complaintsOf(0)", window.complaintsOf(0), 0);
        Check.due("complaintsOf(99)", window.complaintsOf(99), 0);
        window.giveUp(0);
        window.endNights(1);
        Check.due("in whatever state", window.complaintsOf(4), 2);
        window.fileComplaint(4, 0, 1);
        Check.due("complaintsOf(4)", window.complaintsOf(4), 3);
        Check.dueThrow("complaintsOf(-1)", IllegalArgumentException.class, () -> window.complaintsOf(-1));
        Check.dueThrow("complaintsOf(100)", IllegalArgumentException.class, () -> window.complaintsOf(100));
    }
}
