import java.util.NoSuchElementException;

/** The bounds under "2. Complaints" and of promises 20 to 38, 52, 53 and 64: a method for each sentence that names one. */
public final class ComplaintBoundsTest {
    private static final Class<IllegalArgumentException> WRONG_ARGUMENT = IllegalArgumentException.class;
    private static final Class<IllegalStateException> WRONG_STATE = IllegalStateException.class;
    private static final Class<IndexOutOfBoundsException> WRONG_INDEX = IndexOutOfBoundsException.class;
    private static final Class<NoSuchElementException> NO_ELEMENT = NoSuchElementException.class;
    private static final String BARE = "moon 8 2 6;clouds 0;";
    private static final int[] WRONG_PERSONS = {-1, 100, Integer.MIN_VALUE, Integer.MAX_VALUE};
    private static final int[] WRONG_SORTS = {-1, 4, Integer.MIN_VALUE, Integer.MAX_VALUE};

    public static void main(String[] args) {
        atMost24Complaints();
        closedComplaintsCountToo();
        numberedFromZeroInTheirOrder();
        personsAre0To99();
        angersAre1To9();
        sortsAreGlareToFace();
        noTwoWaitingOnesOfTheSameSort();
        againWhenTheFirstIsClosed();
        glareLimitIs1To14();
        gloomLimitIs0To13();
        tideLimitIs0To7();
        glareFromItsLimitOn();
        gloomUpToItsLimit();
        tideFromItsLimitOn();
        faceFromALightOf4();
        faceUpToACloudOf2();
        theAgeIsTheNightsSinceFiling();
        queriesOfNoSuchComplaint();
        closedInAndClerkOfWaitingOnes();
        clerkOfGivenUpOnes();
        onlyWaitingOnesAreGivenUp();
        waitingOfNone();
        oldestAndAngriest();
        complaintsOfNone();
        writtenTextAtItsEnds();
        numbersOfOneAndTwoDigits();
        theLongestText();
        Check.end("ComplaintBoundsTest");
    }

    /** A text with so many complaints: of the sort GLARE, of the persons from 0 on. */
    private static String textOf(int complaints) {
        StringBuilder text = new StringBuilder(BARE);
        for (int i = 0; i < complaints; i++) {
            text.append("complaint ").append(i).append(" glare 1;");
        }
        return text.toString();
    }

    /**
     * Complaints in all states, in night 15: number 0 was dismissed in night 14, 1 answered in night 0 and 2 given up
     * in night 15; 3 is waiting. TIDE is justified in the nights 0 and 14, GLARE and FACE are never.
     */
    private static MoonComplaintWindow allStates() {
        MoonComplaintWindow window = Check.loaded("moon 14 0 7;clouds 9 8 9 9 9 9 9;clerk 1 12;"
                + "complaint 1 glare 1;complaint 1 tide 3;complaint 2 face 5;complaint 3 face 5;");
        window.endNights(15);
        window.giveUp(2);
        return window;
    }

    /** "There are at most 24 complaints" */
    private static void atMost24Complaints() {
        MoonComplaintWindow window = Check.loaded(textOf(23));
        Check.due("the 24th", window.fileComplaint(99, 3, 9), 23);
        Check.due("complaintCount", window.complaintCount(), 24);
        Check.due("personOf the 24th", window.personOf(23), 99);
        Refused.due("the 25th", WRONG_STATE, () -> Check.loaded(textOf(24)), w -> w.fileComplaint(99, 3, 9));
        Check.due("24 in a text", Check.loaded(textOf(24)).complaintCount(), 24);
    }

    private static void closedComplaintsCountToo() {
        Refused.due("the 25th, when the first is given up", WRONG_STATE, () -> {
            MoonComplaintWindow window = Check.loaded(textOf(24));
            window.giveUp(0);
            return window;
        }, w -> w.fileComplaint(0, 0, 1));
        Refused.due("the 25th, when all are given up by age", WRONG_STATE, () -> {
            MoonComplaintWindow window = Check.loaded(textOf(24));
            window.endNights(56);
            return window;
        }, w -> w.fileComplaint(99, 3, 9));
    }

    /** "numbered from 0 in the order in which they were filed" */
    private static void numberedFromZeroInTheirOrder() {
        MoonComplaintWindow window = Check.loaded(BARE);
        Check.due("complaintCount of none", window.complaintCount(), 0);
        Check.due("the first", window.fileComplaint(50, 0, 1), 0);
        Check.due("the second", window.fileComplaint(3, 2, 1), 1);
        window.giveUp(1);
        Check.due("the third: the number of a closed one is not used again", window.fileComplaint(3, 2, 1), 2);
        window.undo();
        Check.due("that of one that was undone is", window.fileComplaint(4, 1, 1), 2);
        Check.due("personOf 2", window.personOf(2), 4);
    }

    /** "A complaint has a person (0 to 99)": of four calls. */
    private static void personsAre0To99() {
        MoonComplaintWindow window = Check.loaded(BARE);
        Check.due("person 0", window.fileComplaint(0, 0, 1), 0);
        Check.due("person 99", window.fileComplaint(99, 0, 1), 1);
        Check.due("waitingOf(0, 0)", window.waitingOf(0, 0), 0);
        Check.due("waitingOf(99, 0)", window.waitingOf(99, 0), 1);
        Check.due("complaintsOf(0)", window.complaintsOf(0), 1);
        Check.due("complaintsOf(99)", window.complaintsOf(99), 1);
        Check.due("written of 0", Check.written(window, 0), "0:w\n");
        Check.due("written of 99", Check.written(window, 99), "1:w\n");
        for (int person : WRONG_PERSONS) {
            Refused.due("fileComplaint of " + person, WRONG_ARGUMENT, () -> written(BARE),
                    w -> w.fileComplaint(person, 0, 1));
            Refused.due("waitingOf of " + person, WRONG_ARGUMENT, () -> written(BARE), w -> w.waitingOf(person, 0));
            Refused.due("complaintsOf " + person, WRONG_ARGUMENT, () -> written(BARE), w -> w.complaintsOf(person));
            Refused.due("writeComplaints of " + person, WRONG_ARGUMENT, () -> written(BARE), w -> w.writeComplaints(person));
        }
    }

    /** A window from this text, with a complaint of person 7 that has been written. */
    private static MoonComplaintWindow written(String text) {
        MoonComplaintWindow window = Check.loaded(text);
        window.fileComplaint(7, 3, 2);
        window.writeComplaints(7);
        return window;
    }

    /** "an anger of 1 to 9" */
    private static void angersAre1To9() {
        MoonComplaintWindow window = Check.loaded(BARE);
        Check.due("anger 1", window.fileComplaint(1, 0, 1), 0);
        Check.due("anger 9", window.fileComplaint(1, 1, 9), 1);
        Check.due("angerOf 0", window.angerOf(0), 1);
        Check.due("angerOf 1", window.angerOf(1), 9);
        for (int anger : new int[] {0, 10, -1, Integer.MIN_VALUE, Integer.MAX_VALUE}) {
            Refused.due("an anger of " + anger, WRONG_ARGUMENT, () -> Check.loaded(BARE), w -> w.fileComplaint(1, 0, anger));
        }
    }

    /** "The sorts are GLARE, GLOOM, TIDE and FACE.": of two calls. */
    private static void sortsAreGlareToFace() {
        MoonComplaintWindow window = Check.loaded(BARE);
        for (int sort = MoonComplaintWindow.GLARE; sort <= MoonComplaintWindow.FACE; sort++) {
            Check.due("fileComplaint", window.fileComplaint(5, sort, 1), sort);
            Check.due("sortOf", window.sortOf(sort), sort);
            Check.due("waitingOf", window.waitingOf(5, sort), sort);
        }
        for (int sort : WRONG_SORTS) {
            Refused.due("a sort of " + sort, WRONG_ARGUMENT, () -> Check.loaded(BARE), w -> w.fileComplaint(5, sort, 1));
            Refused.due("waitingOf sort " + sort, WRONG_ARGUMENT, () -> Check.loaded(BARE), w -> w.waitingOf(5, sort));
        }
    }

    /** "A person cannot have two waiting complaints of the same sort." */
    private static void noTwoWaitingOnesOfTheSameSort() {
        for (int i = 0; i < 4; i++) {
            int sort = i;
            MoonComplaintWindow window = Check.loaded(BARE);
            window.fileComplaint(5, sort, 1);
            Check.due("another sort", window.fileComplaint(5, (sort + 1) % 4, 1), 1);
            Check.due("another person", window.fileComplaint(6, sort, 1), 2);
            Refused.due("the same sort of the same person", WRONG_STATE, () -> ofOne(sort, 0),
                    w -> w.fileComplaint(5, sort, 9));
            Refused.due("the same at the age of 55", WRONG_STATE, () -> ofOne(sort, 55), w -> w.fileComplaint(5, sort, 9));
            Check.due("at the age of 56 it waits no more", ofOne(sort, 56).fileComplaint(5, sort, 9), 1);
        }
    }

    private static MoonComplaintWindow ofOne(int sort, int nights) {
        MoonComplaintWindow window = Check.loaded(BARE);
        window.fileComplaint(5, sort, 1);
        if (nights > 0) {
            window.endNights(nights);
        }
        return window;
    }

    private static void againWhenTheFirstIsClosed() {
        MoonComplaintWindow window = allStates();
        Check.due("of a dismissed one", window.fileComplaint(1, 0, 1), 4);
        Check.due("of an answered one", window.fileComplaint(1, 2, 1), 5);
        Check.due("of a given up one", window.fileComplaint(2, 3, 1), 6);
        Check.due("waitingOf is the new one", window.waitingOf(1, 0), 4);
        Check.due("waitingOf is the new one", window.waitingOf(1, 2), 5);
        Check.due("waitingOf is the new one", window.waitingOf(2, 3), 6);
        Refused.due("of a waiting one", WRONG_STATE, ComplaintBoundsTest::allStates, w -> w.fileComplaint(3, 3, 1));
    }

    /** "There is a glare limit of 1 to 14" */
    private static void glareLimitIs1To14() {
        MoonComplaintWindow window = new MoonComplaintWindow();
        Check.due("setGlareLimit(1)", window.setGlareLimit(1), 8);
        Check.due("glareLimit", window.glareLimit(), 1);
        Check.due("setGlareLimit(14)", window.setGlareLimit(14), 1);
        Check.due("glareLimit", window.glareLimit(), 14);
        for (int limit : new int[] {0, 15, -1, Integer.MIN_VALUE, Integer.MAX_VALUE}) {
            Refused.due("setGlareLimit " + limit, WRONG_ARGUMENT, MoonComplaintWindow::new, w -> w.setGlareLimit(limit));
        }
    }

    /** "a gloom limit of 0 to 13" */
    private static void gloomLimitIs0To13() {
        MoonComplaintWindow window = new MoonComplaintWindow();
        Check.due("setGloomLimit(0)", window.setGloomLimit(0), 2);
        Check.due("gloomLimit", window.gloomLimit(), 0);
        Check.due("setGloomLimit(13)", window.setGloomLimit(13), 0);
        Check.due("gloomLimit", window.gloomLimit(), 13);
        for (int limit : new int[] {-1, 14, Integer.MIN_VALUE, Integer.MAX_VALUE}) {
            Refused.due("setGloomLimit " + limit, WRONG_ARGUMENT, MoonComplaintWindow::new, w -> w.setGloomLimit(limit));
        }
    }

    /** "and a tide limit of 0 to 7" */
    private static void tideLimitIs0To7() {
        MoonComplaintWindow window = new MoonComplaintWindow();
        Check.due("setTideLimit(0)", window.setTideLimit(0), 6);
        Check.due("tideLimit", window.tideLimit(), 0);
        Check.due("setTideLimit(7)", window.setTideLimit(7), 0);
        Check.due("tideLimit", window.tideLimit(), 7);
        for (int limit : new int[] {-1, 8, Integer.MIN_VALUE, Integer.MAX_VALUE}) {
            Refused.due("setTideLimit " + limit, WRONG_ARGUMENT, MoonComplaintWindow::new, w -> w.setTideLimit(limit));
        }
    }

    /** Whether a complaint of this sort, filed in this night, is answered when the night ends. */
    private static boolean isAnsweredIn(MoonComplaintWindow window, int sort, int night) {
        if (night > 0) {
            window.endNights(night);
        }
        window.fileComplaint(50, sort, 1);
        window.endNights(1);
        return window.isAnswered(0);
    }

    /** "of the sort GLARE, if the visible light is at least the glare limit" */
    private static void glareFromItsLimitOn() {
        // Without clouds the visible light is the number of the night up to 14.
        for (int limit = 1; limit <= 14; limit++) {
            String text = "moon " + limit + " 0 7;clouds 0;clerk 9 99;";
            Check.due("just too dark for " + limit, Check.loaded(text).isJustified(0, limit - 1), false);
            Check.due("just bright enough for " + limit, Check.loaded(text).isJustified(0, limit), true);
            Check.due("not answered at " + (limit - 1), isAnsweredIn(Check.loaded(text), 0, limit - 1), false);
            Check.due("answered at " + limit, isAnsweredIn(Check.loaded(text), 0, limit), true);
        }
        // It is the visible light: 14 under a cloud of 1 are 12.
        MoonComplaintWindow cloudy = Check.loaded("moon 12 0 7;clouds 1;");
        Check.due("12 of 12", cloudy.isJustified(0, 14), true);
        cloudy.setGlareLimit(13);
        Check.due("12 of 13", cloudy.isJustified(0, 14), false);
    }

    /** "of the sort GLOOM, if the visible light is at most the gloom limit" */
    private static void gloomUpToItsLimit() {
        for (int limit = 0; limit <= 13; limit++) {
            String text = "moon 14 " + limit + " 7;clouds 0;clerk 9 99;";
            Check.due("just dark enough for " + limit, Check.loaded(text).isJustified(1, limit), true);
            Check.due("just too bright for " + limit, Check.loaded(text).isJustified(1, limit + 1), false);
            Check.due("answered at " + limit, isAnsweredIn(Check.loaded(text), 1, limit), true);
            Check.due("not answered at " + (limit + 1), isAnsweredIn(Check.loaded(text), 1, limit + 1), false);
        }
        MoonComplaintWindow cloudy = Check.loaded("moon 14 12 7;clouds 1;");
        Check.due("12 of 12", cloudy.isJustified(1, 14), true);
        cloudy.setGloomLimit(11);
        Check.due("12 of 11", cloudy.isJustified(1, 14), false);
    }

    /** "of the sort TIDE, if the tide is at least the tide limit" */
    private static void tideFromItsLimitOn() {
        // In the nights 0 to 7 the tide falls from 7 to 0.
        for (int limit = 0; limit <= 7; limit++) {
            String text = "moon 14 0 " + limit + ";clouds 0;clerk 9 99;";
            Check.due("just high enough for " + limit, Check.loaded(text).isJustified(2, 7 - limit), true);
            Check.due("answered at " + limit, isAnsweredIn(Check.loaded(text), 2, 7 - limit), true);
            if (limit > 0) {
                Check.due("just too low for " + limit, Check.loaded(text).isJustified(2, 8 - limit), false);
                Check.due("not answered at " + (limit - 1), isAnsweredIn(Check.loaded(text), 2, 8 - limit), false);
            }
        }
        Check.due("clouds don't matter", Check.loaded("moon 14 0 7;clouds 9;").isJustified(2, 14), true);
    }

    /** "of the sort FACE, if the light is at least 4" */
    private static void faceFromALightOf4() {
        String text = "moon 14 0 7;clouds 2;clerk 9 99;";
        Check.due("a light of 3", Check.loaded(text).isJustified(3, 3), false);
        Check.due("a light of 4, although 3 are visible", Check.loaded(text).isJustified(3, 4), true);
        Check.due("a light of 4 again", Check.loaded(text).isJustified(3, 24), true);
        Check.due("a light of 3 again", Check.loaded(text).isJustified(3, 25), false);
        Check.due("not answered at 3", isAnsweredIn(Check.loaded(text), 3, 3), false);
        Check.due("answered at 4", isAnsweredIn(Check.loaded(text), 3, 4), true);
    }

    /** "and the cloud is at most 2" */
    private static void faceUpToACloudOf2() {
        for (int cloud = 0; cloud <= 9; cloud++) {
            String text = "moon 14 0 7;clouds " + cloud + ";clerk 9 99;";
            Check.due("a cloud of " + cloud, Check.loaded(text).isJustified(3, 14), cloud <= 2);
            Check.due("answered under " + cloud, isAnsweredIn(Check.loaded(text), 3, 14), cloud <= 2);
        }
    }

    /** "The age of a complaint is the number of nights since it was filed.": giveUp returns it. */
    private static void theAgeIsTheNightsSinceFiling() {
        Check.due("in the night of filing", ofOne(0, 0).giveUp(0), 0);
        Check.due("in the next one", ofOne(0, 1).giveUp(0), 1);
        MoonComplaintWindow window = ofOne(0, 55);
        Check.due("the greatest", window.giveUp(0), 55);
        Check.due("closedIn", window.closedIn(0), 55);
        window.fileComplaint(5, 0, 1);
        Check.due("filedIn", window.filedIn(1), 55);
        window.endNights(3);
        Check.due("of one that was filed later", window.giveUp(1), 3);
        Check.due("closedIn", window.closedIn(1), 58);
    }

    /** "Throws IndexOutOfBoundsException if there is no such complaint": of thirteen calls. */
    private static void queriesOfNoSuchComplaint() {
        for (int complaint : new int[] {-1, 4, 24, Integer.MIN_VALUE, Integer.MAX_VALUE}) {
            noSuchComplaint("of four", ComplaintBoundsTest::allStates, complaint);
        }
        noSuchComplaint("of none", () -> Check.loaded(BARE), 0);
        noSuchComplaint("of 24", () -> Check.loaded(textOf(24)), 24);
        noSuchComplaint("that was undone", () -> {
            MoonComplaintWindow window = ofOne(0, 0);
            window.undo();
            return window;
        }, 0);
        MoonComplaintWindow full = Check.loaded(textOf(24));
        Check.due("the last of 24", full.personOf(23), 23);
        Check.due("the last of 24", full.sortOf(23), 0);
        Check.due("the last of 24", full.angerOf(23), 1);
        Check.due("the last of 24", full.filedIn(23), 0);
        Check.due("the last of 24", full.isWaiting(23), true);
        Check.due("the last of 24", full.isAnswered(23), false);
        Check.due("the last of 24", full.isDismissed(23), false);
        Check.due("the last of 24", full.isGivenUp(23), false);
        Check.due("the last of 24", full.nightsToClose(23), 56);
        Check.due("the last of 24", full.willBeAnswered(23), false);
        Check.due("the last of 24", full.giveUp(23), 0);
        Check.due("the last of 24", full.closedIn(23), 0);
    }

    private static void noSuchComplaint(String what, Refused.Past past, int complaint) {
        String number = " " + complaint + " " + what;
        Refused.due("personOf" + number, WRONG_INDEX, past, w -> w.personOf(complaint));
        Refused.due("sortOf" + number, WRONG_INDEX, past, w -> w.sortOf(complaint));
        Refused.due("angerOf" + number, WRONG_INDEX, past, w -> w.angerOf(complaint));
        Refused.due("filedIn" + number, WRONG_INDEX, past, w -> w.filedIn(complaint));
        Refused.due("isWaiting" + number, WRONG_INDEX, past, w -> w.isWaiting(complaint) ? 1 : 0);
        Refused.due("isAnswered" + number, WRONG_INDEX, past, w -> w.isAnswered(complaint) ? 1 : 0);
        Refused.due("isDismissed" + number, WRONG_INDEX, past, w -> w.isDismissed(complaint) ? 1 : 0);
        Refused.due("isGivenUp" + number, WRONG_INDEX, past, w -> w.isGivenUp(complaint) ? 1 : 0);
        Refused.due("closedIn" + number, WRONG_INDEX, past, w -> w.closedIn(complaint));
        Refused.due("clerkOf" + number, WRONG_INDEX, past, w -> w.clerkOf(complaint));
        Refused.due("nightsToClose" + number, WRONG_INDEX, past, w -> w.nightsToClose(complaint));
        Refused.due("willBeAnswered" + number, WRONG_INDEX, past, w -> w.willBeAnswered(complaint) ? 1 : 0);
        Refused.due("giveUp" + number, WRONG_INDEX, past, w -> w.giveUp(complaint));
    }

    /** "Throws NoSuchElementException if it is waiting"; "given up when a night ends counts for the next night" */
    private static void closedInAndClerkOfWaitingOnes() {
        Refused.due("closedIn of a waiting one", NO_ELEMENT, ComplaintBoundsTest::allStates, w -> w.closedIn(3));
        Refused.due("clerkOf of a waiting one", NO_ELEMENT, ComplaintBoundsTest::allStates, w -> w.clerkOf(3));
        MoonComplaintWindow window = allStates();
        Check.due("closedIn of a dismissed one: the night that ended", window.closedIn(0), 14);
        Check.due("closedIn of an answered one: the night that ended", window.closedIn(1), 0);
        Check.due("closedIn of a given up one: the present night", window.closedIn(2), 15);
        window.endNights(41);
        Check.due("given up when the night 55 ended", window.isGivenUp(3), true);
        Check.due("closedIn of it: the next night", window.closedIn(3), 56);
    }

    /** "Throws NoSuchElementException if it is waiting or was given up" */
    private static void clerkOfGivenUpOnes() {
        Check.due("clerkOf of a dismissed one", allStates().clerkOf(0), 0);
        Check.due("clerkOf of an answered one", allStates().clerkOf(1), 0);
        Refused.due("clerkOf of one that was given up", NO_ELEMENT, ComplaintBoundsTest::allStates, w -> w.clerkOf(2));
        Refused.due("clerkOf of one that was given up by age", NO_ELEMENT, () -> ofOne(0, 56), w -> w.clerkOf(0));
    }

    /** "Throws IllegalStateException if it is not waiting": of three calls. */
    private static void onlyWaitingOnesAreGivenUp() {
        for (int i = 0; i < 3; i++) {
            int closed = i;
            Refused.due("giveUp " + i, WRONG_STATE, ComplaintBoundsTest::allStates, w -> w.giveUp(closed));
            Refused.due("nightsToClose " + i, WRONG_STATE, ComplaintBoundsTest::allStates, w -> w.nightsToClose(closed));
            Refused.due("willBeAnswered " + i, WRONG_STATE, ComplaintBoundsTest::allStates,
                    w -> w.willBeAnswered(closed) ? 1 : 0);
        }
        Refused.due("giveUp at the age of 56", WRONG_STATE, () -> ofOne(0, 56), w -> w.giveUp(0));
        Check.due("giveUp of the waiting one", allStates().giveUp(3), 15);
    }

    /** "Throws NoSuchElementException if there is none" */
    private static void waitingOfNone() {
        Refused.due("of no complaints", NO_ELEMENT, () -> Check.loaded(BARE), w -> w.waitingOf(0, 0));
        Refused.due("of none of 24", NO_ELEMENT, () -> Check.loaded(textOf(24)), w -> w.waitingOf(24, 0));
        Check.due("of the last of 24", Check.loaded(textOf(24)).waitingOf(23, 0), 23);
        Refused.due("of another sort", NO_ELEMENT, ComplaintBoundsTest::allStates, w -> w.waitingOf(3, 2));
        Refused.due("of another person", NO_ELEMENT, ComplaintBoundsTest::allStates, w -> w.waitingOf(4, 3));
        Refused.due("of a dismissed one", NO_ELEMENT, ComplaintBoundsTest::allStates, w -> w.waitingOf(1, 0));
        Refused.due("of an answered one", NO_ELEMENT, ComplaintBoundsTest::allStates, w -> w.waitingOf(1, 2));
        Refused.due("of a given up one", NO_ELEMENT, ComplaintBoundsTest::allStates, w -> w.waitingOf(2, 3));
        Check.due("of the waiting one", allStates().waitingOf(3, 3), 3);
    }

    /** "the lowest number of several"; "Throws NoSuchElementException if no complaint is waiting" */
    private static void oldestAndAngriest() {
        Refused.due("oldest of no complaints", NO_ELEMENT, () -> Check.loaded(BARE), w -> w.oldest());
        Refused.due("angriest of no complaints", NO_ELEMENT, () -> Check.loaded(BARE), w -> w.angriest());
        Refused.due("oldest of closed ones", NO_ELEMENT, () -> ofOne(0, 56), w -> w.oldest());
        Refused.due("angriest of closed ones", NO_ELEMENT, () -> ofOne(0, 56), w -> w.angriest());
        for (int sort = 0; sort < 4; sort++) {
            Check.due("oldest: the only one, of sort " + sort, ofOne(sort, 0).oldest(), 0);
            Check.due("angriest: the only one, of sort " + sort, ofOne(sort, 0).angriest(), 0);
        }
        Check.due("oldest: the only one", allStates().oldest(), 3);
        Check.due("angriest: the only one", allStates().angriest(), 3);
        MoonComplaintWindow window = Check.loaded(textOf(24));
        Check.due("oldest of equal ones", window.oldest(), 0);
        Check.due("angriest of equal ones", window.angriest(), 0);
        window.giveUp(0);
        Check.due("oldest of the rest", window.oldest(), 1);
        Check.due("angriest of the rest", window.angriest(), 1);
        MoonComplaintWindow two = ofOne(0, 3);
        two.fileComplaint(6, 0, 2);
        two.fileComplaint(7, 0, 2);
        Check.due("oldest: the first in the earliest night", two.oldest(), 0);
        Check.due("angriest: the first of the greatest anger", two.angriest(), 1);
        // The anger of number 0 becomes 2 in night 7, that of the others 3 in night 10.
        two.endNights(4);
        Check.due("angriest of three of anger 2", two.angriest(), 0);
        two.endNights(3);
        Check.due("angriest of one of anger 2 and two of anger 3", two.angriest(), 1);
    }

    /** "the number of complaints of this person, in whatever state" */
    private static void complaintsOfNone() {
        Check.due("of a person without any", allStates().complaintsOf(0), 0);
        Check.due("closed ones only", allStates().complaintsOf(1), 2);
        Check.due("a waiting one", allStates().complaintsOf(3), 1);
        MoonComplaintWindow window = Check.loaded(BARE);
        for (int i = 0; i < 24; i++) {
            window.fileComplaint(99, i % 4, 1);
            window.giveUp(i);
        }
        Check.due("all 24", window.complaintsOf(99), 24);
        Check.due("givenUpCount", window.givenUpCount(), 24);
        Check.due("waitingCount", window.waitingCount(), 0);
    }

    /** "Returns the byte at this offset."; "if there is no such byte (also before the first call of writeComplaints)" */
    private static void writtenTextAtItsEnds() {
        Refused.due("before the first writing", WRONG_INDEX, ComplaintBoundsTest::allStates, w -> w.writtenByte(0));
        Refused.due("of an empty text", WRONG_INDEX, () -> writing(allStates(), 99), w -> w.writtenByte(0));
        MoonComplaintWindow window = allStates();
        Check.due("a person without any", window.writeComplaints(0), 0);
        Check.due("two of them", window.writeComplaints(1), 8);
        Check.due("the first byte", window.writtenByte(0), '0');
        Check.due("a dismissed one", window.writtenByte(2), 'd');
        Check.due("an answered one", window.writtenByte(6), 'a');
        Check.due("the last byte", window.writtenByte(7), '\n');
        for (int index : new int[] {-1, 8, Integer.MIN_VALUE, Integer.MAX_VALUE}) {
            Refused.due("writtenByte " + index, WRONG_INDEX, () -> writing(allStates(), 1), w -> w.writtenByte(index));
        }
        Check.due("a given up one", Check.written(allStates(), 2), "2:g\n");
        Check.due("a waiting one", Check.written(allStates(), 3), "3:w\n");
    }

    private static MoonComplaintWindow writing(MoonComplaintWindow window, int person) {
        window.writeComplaints(person);
        return window;
    }

    private static void numbersOfOneAndTwoDigits() {
        MoonComplaintWindow window = Check.loaded(textOf(24));
        Check.due("number 9", Check.written(window, 9), "9:w\n");
        Check.due("number 10", Check.written(window, 10), "10:w\n");
        Check.due("number 19", Check.written(window, 19), "19:w\n");
        Check.due("number 20", Check.written(window, 20), "20:w\n");
        Check.due("number 23", Check.written(window, 23), "23:w\n");
    }

    /** The longest text: of 24 complaints of one person. */
    private static void theLongestText() {
        MoonComplaintWindow window = Check.loaded(BARE);
        StringBuilder due = new StringBuilder();
        for (int i = 0; i < 24; i++) {
            window.fileComplaint(99, i % 4, 1);
            if (i % 2 == 0 || i < 20) {
                window.giveUp(i);
            }
            due.append(i).append(i % 2 == 0 || i < 20 ? ":g\n" : ":w\n");
        }
        Check.due("text", Check.written(window, 99), due.toString());
        Check.due("length", window.writeComplaints(99), 110);
        Check.due("the last byte", window.writtenByte(109), '\n');
        Check.dueThrow("behind it", WRONG_INDEX, () -> window.writtenByte(110));
        Check.due("a text of nothing replaces it", window.writeComplaints(0), 0);
        Check.dueThrow("it is gone", WRONG_INDEX, () -> window.writtenByte(0));
    }
}
