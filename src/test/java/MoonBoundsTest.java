import java.util.NoSuchElementException;

/** The bounds under "1. The moon" and of promises 7 to 19: a method for each sentence that names one. */
public final class MoonBoundsTest {
    private static final Class<IllegalArgumentException> WRONG_ARGUMENT = IllegalArgumentException.class;
    private static final Class<IllegalStateException> WRONG_STATE = IllegalStateException.class;
    private static final Class<NoSuchElementException> NO_ELEMENT = NoSuchElementException.class;
    private static final String CLEAR = "moon 8 2 6;clouds 0;";
    private static final String TEN = "moon 8 2 6;clouds 1 2 3 4 5 6 7 8 9 0;";
    private static final int[] WRONG_NIGHTS = {-1, 2001, Integer.MIN_VALUE, Integer.MAX_VALUE};
    private static final int[] WRONG_SORTS = {-1, 4, Integer.MIN_VALUE, Integer.MAX_VALUE};

    public static void main(String[] args) {
        theNightIsZeroAtFirst();
        theNightIsAtMost999();
        theAgeIsModulo28();
        theLightAtItsEnds();
        theTideAtItsEnds();
        oneToTenClouds();
        eachCloudIsZeroToNine();
        theListOfCloudsWrapsAround();
        theVisibleLightIsRoundedDown();
        nightsAreAskedFrom0To2000();
        sortsAreGlareToFace();
        nextJustifiedStartsAtThePresentNight();
        nextJustifiedLooksAt280Nights();
        justifiedNightsAre28();
        likeliestIsTheLowestOfSeveral();
        likeliestLooksFromThePresentNightOn();
        Check.end("MoonBoundsTest");
    }

    static MoonComplaintWindow inNight(String text, int night) {
        MoonComplaintWindow window = Check.loaded(text);
        for (int left = night; left > 0; left -= 60) {
            window.endNights(Math.min(60, left));
        }
        return window;
    }

    /** "The night is 0 at first .." */
    private static void theNightIsZeroAtFirst() {
        MoonComplaintWindow window = new MoonComplaintWindow();
        Check.due("night of a new object", window.night(), 0);
        window.endNights(1);
        Check.due("night behind the first", window.night(), 1);
        Check.put(window, CLEAR);
        window.load();
        Check.due("night behind load", window.night(), 0);
    }

    /** ".. and at most 999." */
    private static void theNightIsAtMost999() {
        MoonComplaintWindow window = inNight(CLEAR, 998);
        Check.due("endNights(1) to 999", window.endNights(1), 0);
        Check.due("night", window.night(), 999);
        Refused.due("endNights(1) to 1000", WRONG_STATE, () -> inNight(CLEAR, 999), w -> w.endNights(1));
        Refused.due("endNights(60) to 1059", WRONG_STATE, () -> inNight(CLEAR, 999), w -> w.endNights(60));
        Refused.due("endNights(2) to 1000", WRONG_STATE, () -> inNight(CLEAR, 998), w -> w.endNights(2));
        Refused.due("endNights(60) to 1000", WRONG_STATE, () -> inNight(CLEAR, 940), w -> w.endNights(60));
        MoonComplaintWindow far = inNight(CLEAR, 939);
        Check.due("endNights(60) to 999", far.endNights(60), 0);
        Check.due("night", far.night(), 999);
    }

    /** "The age of the moon in a night is the number of the night modulo 28." */
    private static void theAgeIsModulo28() {
        MoonComplaintWindow window = Check.loaded(CLEAR);
        int[][] due = {{0, 0, 7}, {26, 2, 5}, {27, 1, 6}, {28, 0, 7}, {29, 1, 6}, {55, 1, 6}, {56, 0, 7}, {57, 1, 6},
            {979, 1, 6}, {980, 0, 7}, {999, 9, 2}, {1000, 8, 1}, {1987, 1, 6}, {1988, 0, 7}, {2000, 12, 5}};
        for (int[] d : due) {
            Check.due("lightOf " + d[0], window.lightOf(d[0]), d[1]);
            Check.due("tideOf " + d[0], window.tideOf(d[0]), d[2]);
            Check.due("visibleLight " + d[0], window.visibleLight(d[0]), d[1]);
        }
    }

    /** "The light of a night is ..: 0 for a new moon, 14 for a full moon." */
    private static void theLightAtItsEnds() {
        MoonComplaintWindow window = Check.loaded(CLEAR);
        Check.due("new moon", window.lightOf(0), 0);
        Check.due("the night after it", window.lightOf(1), 1);
        Check.due("the night before the full moon", window.lightOf(13), 13);
        Check.due("full moon", window.lightOf(14), 14);
        Check.due("the night after it", window.lightOf(15), 13);
        Check.due("the night before the new moon", window.lightOf(27), 1);
    }

    /** "The tide of a night is the difference between 7 and the age modulo 14, taken without its sign (0 to 7)." */
    private static void theTideAtItsEnds() {
        MoonComplaintWindow window = Check.loaded(CLEAR);
        int[][] due = {{0, 7}, {1, 6}, {6, 1}, {7, 0}, {8, 1}, {13, 6}, {14, 7}, {15, 6}, {20, 1}, {21, 0},
            {22, 1}, {27, 6}};
        for (int[] d : due) {
            Check.due("tideOf " + d[0], window.tideOf(d[0]), d[1]);
        }
    }

    /** "There is a list of 1 to 10 clouds;" */
    private static void oneToTenClouds() {
        Check.due("one cloud", Check.loaded(CLEAR).cloudCount(), 1);
        Check.due("ten clouds", Check.loaded(TEN).cloudCount(), 10);
        Refused.dueOfLoad("no cloud", () -> with("moon 8 2 6;clouds;"), 17);
        Refused.dueOfLoad("an 11th cloud", () -> with("moon 8 2 6;clouds 1 2 3 4 5 6 7 8 9 0 1;"), 38);
        Check.due("the only one", Check.loaded(CLEAR).setCloud(0, 4), 0);
        Refused.due("index 1 of one", IndexOutOfBoundsException.class, () -> Check.loaded(CLEAR), w -> w.setCloud(1, 4));
        Check.due("the tenth", Check.loaded(TEN).setCloud(9, 4), 0);
        Refused.due("index 10 of ten", IndexOutOfBoundsException.class, () -> Check.loaded(TEN), w -> w.setCloud(10, 4));
        for (int index : new int[] {-1, Integer.MIN_VALUE, Integer.MAX_VALUE}) {
            Refused.due("index " + index, IndexOutOfBoundsException.class, () -> Check.loaded(TEN),
                    w -> w.setCloud(index, 4));
        }
    }

    private static MoonComplaintWindow with(String text) {
        MoonComplaintWindow window = new MoonComplaintWindow();
        Check.put(window, text);
        return window;
    }

    /** "each is 0 to 9." */
    private static void eachCloudIsZeroToNine() {
        MoonComplaintWindow window = Check.loaded(TEN);
        Check.due("setCloud to 9", window.setCloud(0, 9), 1);
        Check.due("cloudOf", window.cloudOf(0), 9);
        Check.due("setCloud to 0", window.setCloud(0, 0), 9);
        Check.due("cloudOf", window.cloudOf(0), 0);
        for (int cloud : new int[] {-1, 10, Integer.MIN_VALUE, Integer.MAX_VALUE}) {
            Refused.due("setCloud to " + cloud, WRONG_ARGUMENT, () -> Check.loaded(TEN), w -> w.setCloud(0, cloud));
        }
        Refused.dueOfLoad("a cloud of 10", () -> with("moon 8 2 6;clouds 10;"), 18);
    }

    /** "The cloud of a night is the element of this list whose index is the number of the night modulo the length .." */
    private static void theListOfCloudsWrapsAround() {
        MoonComplaintWindow one = Check.loaded("moon 8 2 6;clouds 7;");
        MoonComplaintWindow three = Check.loaded("moon 8 2 6;clouds 1 2 3;");
        MoonComplaintWindow ten = Check.loaded(TEN);
        int[][] due = {{0, 7, 1, 1}, {1, 7, 2, 2}, {2, 7, 3, 3}, {3, 7, 1, 4}, {8, 7, 3, 9}, {9, 7, 1, 0}, {10, 7, 2, 1},
            {19, 7, 2, 0}, {20, 7, 3, 1}, {999, 7, 1, 0}, {1000, 7, 2, 1}, {1999, 7, 2, 0}, {2000, 7, 3, 1}};
        for (int[] d : due) {
            Check.due("cloudOf " + d[0] + " of one", one.cloudOf(d[0]), d[1]);
            Check.due("cloudOf " + d[0] + " of three", three.cloudOf(d[0]), d[2]);
            Check.due("cloudOf " + d[0] + " of ten", ten.cloudOf(d[0]), d[3]);
        }
        // The cloud goes by the night, not by the age of the moon: 28 nights later it is another.
        Check.due("cloudOf 28 of three", three.cloudOf(28), 2);
        three.setCloud(2, 8);
        Check.due("cloudOf 2", three.cloudOf(2), 8);
        Check.due("cloudOf 5", three.cloudOf(5), 8);
        Check.due("cloudOf 6", three.cloudOf(6), 1);
    }

    /** "its light times the difference of 10 and its cloud, divided by 10 and rounded down" */
    private static void theVisibleLightIsRoundedDown() {
        // The night, the cloud, and the visible light: 0.9, 1, 1.4, 1.2, 12.6, 1.8, 2, 0.1, 0.
        int[][] due = {{9, 9, 0}, {10, 9, 1}, {14, 9, 1}, {4, 7, 1}, {14, 1, 12}, {9, 8, 1}, {10, 8, 2},
            {1, 9, 0}, {0, 0, 0},
            {14, 0, 14}, {5, 2, 4}, {14, 5, 7}, {13, 5, 6}, {27, 0, 1}, {28, 0, 0}};
        for (int[] d : due) {
            MoonComplaintWindow window = Check.loaded("moon 8 2 6;clouds " + d[1] + ";");
            Check.due("visibleLight " + d[0] + " under " + d[1], window.visibleLight(d[0]), d[2]);
        }
        MoonComplaintWindow changed = Check.loaded(CLEAR);
        changed.setCloud(0, 5);
        Check.due("visibleLight behind setCloud", changed.visibleLight(14), 7);
        changed.undo();
        Check.due("visibleLight behind undo", changed.visibleLight(14), 14);
    }

    /** "`night`: 0 to 2000" of five calls, whatever the present night is. */
    private static void nightsAreAskedFrom0To2000() {
        for (int present : new int[] {0, 999}) {
            MoonComplaintWindow window = inNight(TEN, present);
            Check.due("lightOf 0", window.lightOf(0), 0);
            Check.due("tideOf 0", window.tideOf(0), 7);
            Check.due("cloudOf 0", window.cloudOf(0), 1);
            Check.due("visibleLight 0", window.visibleLight(0), 0);
            Check.due("isJustified TIDE in 0", window.isJustified(2, 0), true);
            // The night 2000 has the age 12 and the cloud 1.
            Check.due("lightOf 2000", window.lightOf(2000), 12);
            Check.due("tideOf 2000", window.tideOf(2000), 5);
            Check.due("cloudOf 2000", window.cloudOf(2000), 1);
            Check.due("visibleLight 2000", window.visibleLight(2000), 10);
            Check.due("isJustified GLARE in 2000", window.isJustified(0, 2000), true);
            for (int night : WRONG_NIGHTS) {
                Refused.due("lightOf " + night, WRONG_ARGUMENT, () -> inNight(TEN, present), w -> w.lightOf(night));
                Refused.due("tideOf " + night, WRONG_ARGUMENT, () -> inNight(TEN, present), w -> w.tideOf(night));
                Refused.due("cloudOf " + night, WRONG_ARGUMENT, () -> inNight(TEN, present), w -> w.cloudOf(night));
                Refused.due("visibleLight " + night, WRONG_ARGUMENT, () -> inNight(TEN, present),
                        w -> w.visibleLight(night));
                for (int sort = 0; sort < 4; sort++) {
                    int asked = sort;
                    Refused.due("isJustified " + sort + " " + night, WRONG_ARGUMENT, () -> inNight(TEN, present),
                            w -> w.isJustified(asked, night) ? 1 : 0);
                }
            }
        }
    }

    /** "`sort`: GLARE, GLOOM, TIDE or FACE" of three calls. */
    private static void sortsAreGlareToFace() {
        MoonComplaintWindow window = new MoonComplaintWindow();
        Check.due("isJustified GLARE, the lowest", window.isJustified(MoonComplaintWindow.GLARE, 12), true);
        Check.due("isJustified FACE, the highest", window.isJustified(MoonComplaintWindow.FACE, 12), true);
        Check.due("nextJustified GLARE", window.nextJustified(MoonComplaintWindow.GLARE), 9);
        Check.due("nextJustified FACE", window.nextJustified(MoonComplaintWindow.FACE), 6);
        Check.due("justifiedNights GLARE", window.justifiedNights(MoonComplaintWindow.GLARE), 6);
        Check.due("justifiedNights FACE", window.justifiedNights(MoonComplaintWindow.FACE), 7);
        for (int sort : WRONG_SORTS) {
            Refused.due("isJustified " + sort, WRONG_ARGUMENT, MoonComplaintWindow::new,
                    w -> w.isJustified(sort, 0) ? 1 : 0);
            Refused.due("nextJustified " + sort, WRONG_ARGUMENT, MoonComplaintWindow::new, w -> w.nextJustified(sort));
            Refused.due("justifiedNights " + sort, WRONG_ARGUMENT, MoonComplaintWindow::new, w -> w.justifiedNights(sort));
        }
    }

    /** "the first night, from the present one on, in which complaints of this sort are justified" */
    private static void nextJustifiedStartsAtThePresentNight() {
        // GLARE at a limit of 14 and no clouds: the full moon alone.
        String full = "moon 14 0 7;clouds 0;";
        Check.due("the night before it", inNight(full, 13).nextJustified(0), 14);
        Check.due("the night itself", inNight(full, 14).nextJustified(0), 14);
        Check.due("the night after it", inNight(full, 15).nextJustified(0), 42);
        Check.due("the last night looks beyond 999", inNight(full, 999).nextJustified(0), 1022);
        Check.due("TIDE in the last night", inNight(full, 999).nextJustified(2), 1008);
    }

    /** "if there is none among the present night and the next 279" */
    private static void nextJustifiedLooksAt280Nights() {
        // Nine clouds and 28 ages come together again after 252 nights, and no list needs longer.
        String nine = "moon 14 0 7;clouds 9 9 9 9 9 0 9 9 9;";
        Check.due("251 nights farther", inNight(nine, 15).nextJustified(0), 266);
        Check.due("from the night before", inNight(nine, 14).nextJustified(0), 14);
        String never = "moon 14 0 7;clouds 9 9 9 9 9 1 9 9 9;";
        Refused.due("GLARE never", NO_ELEMENT, () -> inNight(never, 0), w -> w.nextJustified(0));
        Refused.due("GLARE never", NO_ELEMENT, () -> inNight(never, 999), w -> w.nextJustified(0));
        Refused.due("FACE never", NO_ELEMENT, () -> Check.loaded("moon 1 0 7;clouds 3 9;"), w -> w.nextJustified(3));
        Check.due("FACE under 2", Check.loaded("moon 1 0 7;clouds 2 9;").nextJustified(3), 4);
    }

    /** "the number of nights of the next 28, the present one included" */
    private static void justifiedNightsAre28() {
        // One clear night in ten: FACE in the nights 12, 22, 32, 42 and so on (night 2 has too little light).
        String text = "moon 14 0 7;clouds 9 9 0 9 9 9 9 9 9 9;";
        Check.due("nights 4 to 31", inNight(text, 4).justifiedNights(3), 2);
        Check.due("nights 5 to 32: the 28th counts", inNight(text, 5).justifiedNights(3), 3);
        Check.due("nights 12 to 39: the present one counts", inNight(text, 12).justifiedNights(3), 3);
        Check.due("nights 13 to 40: the one before does not", inNight(text, 13).justifiedNights(3), 2);
        Check.due("nights 14 to 41: the 29th does not", inNight(text, 14).justifiedNights(3), 2);
        Check.due("nights 15 to 42", inNight(text, 15).justifiedNights(3), 3);
        Check.due("none", Check.loaded("moon 14 0 7;clouds 9;").justifiedNights(0), 0);
        Check.due("all", Check.loaded("moon 14 0 0;clouds 9;").justifiedNights(2), 28);
        // Beyond the night 999: from the age 19 on, the full moon comes in night 1022, the 24th.
        Check.due("nights 999 to 1026", inNight("moon 14 0 7;clouds 0;", 999).justifiedNights(0), 1);
    }

    /** "the sort with the greatest justifiedNights, the lowest of several" */
    private static void likeliestIsTheLowestOfSeveral() {
        Check.due("GLOOM before TIDE, 28 each", Check.loaded("moon 14 13 0;clouds 9;").likeliestSort(), 1);
        Check.due("GLARE before FACE, 21 each", Check.loaded("moon 4 0 7;clouds 0;").likeliestSort(), 0);
        Check.due("27 of GLARE, 28 of TIDE", Check.loaded("moon 1 0 0;clouds 0;").likeliestSort(), 2);
        Check.due("19 of GLARE, 21 of FACE", Check.loaded("moon 5 0 7;clouds 0;").likeliestSort(), 3);
        Check.due("23 of GLARE, 21 of FACE", Check.loaded("moon 3 0 7;clouds 0;").likeliestSort(), 0);
    }

    /** "the greatest justifiedNights", which count from the present night on, for each of the sorts. */
    private static void likeliestLooksFromThePresentNightOn() {
        // TIDE has 14 of any 28 nights; GLARE has 14 too, but 13 from the nights 4 and 5 on.
        String glare = "moon 3 0 4;clouds 0 5 9;";
        Check.due("GLARE has 14 in night 3", inNight(glare, 3).likeliestSort(), 0);
        Check.due("GLARE has 13 in night 4", inNight(glare, 4).likeliestSort(), 2);
        Check.due("GLARE has 13 in night 5", inNight(glare, 5).likeliestSort(), 2);
        Check.due("GLARE has 14 in night 6", inNight(glare, 6).likeliestSort(), 0);
        // GLOOM has 13 nights, but 14 from the nights 2 and 3 on.
        String gloom = "moon 14 0 4;clouds 9 0 9;";
        Check.due("GLOOM has 13 in night 1", inNight(gloom, 1).likeliestSort(), 2);
        Check.due("GLOOM has 14 in night 2", inNight(gloom, 2).likeliestSort(), 1);
        Check.due("GLOOM has 14 in night 3", inNight(gloom, 3).likeliestSort(), 1);
        Check.due("GLOOM has 13 in night 4", inNight(gloom, 4).likeliestSort(), 2);
    }
}
