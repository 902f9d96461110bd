/** Promises 52 to 59, and the order of their exceptions. */
public final class ChangesTest {
    private static final Class<IllegalArgumentException> WRONG_ARGUMENT = IllegalArgumentException.class;
    private static final Class<IllegalStateException> WRONG_STATE = IllegalStateException.class;
    private static final Class<IndexOutOfBoundsException> WRONG_INDEX = IndexOutOfBoundsException.class;

    public static void main(String[] args) {
        fileComplaint();
        fileTooMany();
        giveUp();
        addClerk();
        refill();
        setCloud();
        setLimits();
        Check.end("ChangesTest");
    }

    private static void fileComplaint() {
        MoonComplaintWindow window = new MoonComplaintWindow();
        Check.due("fileComplaint", window.fileComplaint(0, 0, 1), 4);
        Check.due("fileComplaint", window.fileComplaint(99, 3, 9), 5);
        Check.due("the same person, another sort", window.fileComplaint(99, 2, 9), 6);
        Check.due("isWaiting", window.isWaiting(6), true);
        int[][] wrong = {{-1, 0, 1}, {100, 0, 1}, {1, -1, 1}, {1, 4, 1}, {1, 0, 0}, {1, 0, 10},
            {Integer.MIN_VALUE, 0, 1}, {1, Integer.MAX_VALUE, 1}, {1, 0, Integer.MIN_VALUE},
            // Of these the person has a waiting one already: the first of the exceptions is due.
            {4, 0, 0}, {4, 1, 10}};
        String before = Check.state(window);
        for (int[] w : wrong) {
            Check.dueThrow("fileComplaint " + w[0] + " " + w[1] + " " + w[2], WRONG_ARGUMENT,
                    () -> window.fileComplaint(w[0], w[1], w[2]));
        }
        Check.dueThrow("a waiting one of this sort", WRONG_STATE, () -> window.fileComplaint(4, 0, 1));
        Check.dueThrow("a waiting one of this sort", WRONG_STATE, () -> window.fileComplaint(99, 3, 9));
        Check.due("nothing is changed", Check.state(window), before);
        window.endNights(1);
        Check.due("the TIDE one was answered", window.fileComplaint(9, 2, 3), 7);
        Check.due("filedIn", window.filedIn(7), 1);
        Check.due("angerOf", window.angerOf(7), 3);
        Check.due("undo", window.undo(), 4);
    }

    private static void fileTooMany() {
        MoonComplaintWindow window = Check.loaded("moon 14 0 7;clouds 9;");
        for (int i = 0; i < 24; i++) {
            Check.due("fileComplaint", window.fileComplaint(i, i % 4, 1), i);
        }
        Check.dueThrow("the 25th", WRONG_STATE, () -> window.fileComplaint(50, 0, 1));
        Check.dueThrow("the 25th, with a wrong anger", WRONG_ARGUMENT, () -> window.fileComplaint(50, 0, 0));
        for (int i = 0; i < 24; i++) {
            window.giveUp(i);
        }
        Check.dueThrow("closed ones count too", WRONG_STATE, () -> window.fileComplaint(50, 0, 1));
        Check.due("complaintCount", window.complaintCount(), 24);
        Check.due("undo", window.undo(), 7);
    }

    private static void giveUp() {
        MoonComplaintWindow window = new MoonComplaintWindow();
        Check.due("giveUp", window.giveUp(2), 0);
        Check.due("isGivenUp", window.isGivenUp(2), true);
        Check.due("closedIn", window.closedIn(2), 0);
        Check.dueThrow("giveUp again", WRONG_STATE, () -> window.giveUp(2));
        window.endNights(5);
        window.fileComplaint(50, 0, 1);
        Check.dueThrow("giveUp an answered one", WRONG_STATE, () -> window.giveUp(1));
        Check.due("giveUp", window.giveUp(0), 5);
        Check.due("closedIn", window.closedIn(0), 5);
        window.endNights(3);
        // It was filed in night 5; nights 5 to 7 have too little light for GLARE.
        Check.due("giveUp", window.giveUp(4), 3);
        Check.dueThrow("giveUp(-1)", WRONG_INDEX, () -> window.giveUp(-1));
        Check.dueThrow("giveUp(5)", WRONG_INDEX, () -> window.giveUp(5));
        Check.dueThrow("giveUp(MAX)", WRONG_INDEX, () -> window.giveUp(Integer.MAX_VALUE));
    }

    private static void addClerk() {
        MoonComplaintWindow window = new MoonComplaintWindow();
        Check.due("addClerk", window.addClerk(1, 0), 2);
        Check.due("addClerk", window.addClerk(9, 99), 3);
        int[][] wrong = {{0, 0}, {10, 0}, {1, -1}, {1, 100}, {Integer.MIN_VALUE, 0}, {1, Integer.MAX_VALUE}};
        for (int[] w : wrong) {
            Check.dueThrow("addClerk " + w[0] + " " + w[1], WRONG_ARGUMENT, () -> window.addClerk(w[0], w[1]));
        }
        Check.due("addClerk", window.addClerk(5, 50), 4);
        Check.due("skillOf", window.skillOf(4), 5);
        Check.due("oilOf", window.oilOf(4), 50);
        Check.dueThrow("the 6th", WRONG_STATE, () -> window.addClerk(1, 0));
        Check.dueThrow("the 6th, of a wrong skill", WRONG_ARGUMENT, () -> window.addClerk(0, 0));
        Check.dueThrow("the 6th, of wrong oil", WRONG_ARGUMENT, () -> window.addClerk(1, 100));
        Check.due("clerkCount", window.clerkCount(), 5);
        Check.due("undo", window.undo(), 2);
    }

    private static void refill() {
        MoonComplaintWindow window = new MoonComplaintWindow();
        Check.due("refill", window.refill(0, 1), 21);
        Check.due("refill", window.refill(0, 78), 99);
        Check.due("refill", window.refill(0, 1), 99);
        Check.due("refill", window.refill(1, 99), 99);
        Check.due("oilOf", window.oilOf(1), 99);
        Check.dueThrow("refill(0, 0)", WRONG_ARGUMENT, () -> window.refill(0, 0));
        Check.dueThrow("refill(0, 100)", WRONG_ARGUMENT, () -> window.refill(0, 100));
        Check.dueThrow("refill(0, -1)", WRONG_ARGUMENT, () -> window.refill(0, -1));
        Check.dueThrow("refill(0, MAX)", WRONG_ARGUMENT, () -> window.refill(0, Integer.MAX_VALUE));
        Check.dueThrow("refill(2, 1)", WRONG_INDEX, () -> window.refill(2, 1));
        Check.dueThrow("refill(-1, 1)", WRONG_INDEX, () -> window.refill(-1, 1));
        Check.dueThrow("refill(2, 0): the index comes first", WRONG_INDEX, () -> window.refill(2, 0));
        Check.due("undo: four changes, even those that made nothing different", window.undo(), 3);
    }

    private static void setCloud() {
        MoonComplaintWindow window = new MoonComplaintWindow();
        Check.due("setCloud", window.setCloud(2, 0), 9);
        Check.due("setCloud", window.setCloud(2, 9), 0);
        Check.due("setCloud", window.setCloud(1, 5), 3);
        Check.due("setCloud", window.setCloud(0, 0), 0);
        Check.due("cloudOf", window.cloudOf(1), 5);
        Check.due("cloudOf", window.cloudOf(1001), 9);
        Check.due("cloudCount", window.cloudCount(), 3);
        Check.dueThrow("setCloud(3, 0)", WRONG_INDEX, () -> window.setCloud(3, 0));
        Check.dueThrow("setCloud(-1, 0)", WRONG_INDEX, () -> window.setCloud(-1, 0));
        Check.dueThrow("setCloud(3, 10): the index comes first", WRONG_INDEX, () -> window.setCloud(3, 10));
        Check.dueThrow("setCloud(0, 10)", WRONG_ARGUMENT, () -> window.setCloud(0, 10));
        Check.dueThrow("setCloud(0, -1)", WRONG_ARGUMENT, () -> window.setCloud(0, -1));
        Check.due("undo", window.undo(), 3);
    }

    private static void setLimits() {
        MoonComplaintWindow window = new MoonComplaintWindow();
        Check.due("setGlareLimit", window.setGlareLimit(1), 8);
        Check.due("setGlareLimit", window.setGlareLimit(14), 1);
        Check.due("setGloomLimit", window.setGloomLimit(13), 2);
        Check.due("setGloomLimit", window.setGloomLimit(0), 13);
        Check.due("setTideLimit", window.setTideLimit(7), 6);
        Check.due("setTideLimit", window.setTideLimit(0), 7);
        for (int limit : new int[] {-1, 0, 15, Integer.MIN_VALUE, Integer.MAX_VALUE}) {
            Check.dueThrow("setGlareLimit " + limit, WRONG_ARGUMENT, () -> window.setGlareLimit(limit));
        }
        for (int limit : new int[] {-1, 14, Integer.MIN_VALUE, Integer.MAX_VALUE}) {
            Check.dueThrow("setGloomLimit " + limit, WRONG_ARGUMENT, () -> window.setGloomLimit(limit));
        }
        for (int limit : new int[] {-1, 8, Integer.MIN_VALUE, Integer.MAX_VALUE}) {
            Check.dueThrow("setTideLimit " + limit, WRONG_ARGUMENT, () -> window.setTideLimit(limit));
        }
        Check.due("glareLimit", window.glareLimit(), 14);
        Check.due("gloomLimit", window.gloomLimit(), 0);
        Check.due("tideLimit", window.tideLimit(), 0);
        Check.due("undo", window.undo(), 5);
        Check.due("tideLimit", window.tideLimit(), 7);
    }
}
