import java.util.NoSuchElementException;

/** Promises 7 to 19. */
public final class MoonTest {
    private static final int[] LIGHTS = {0, 1, 2, 3, 4, 5, 6, 7, 8, 9, 10, 11, 12, 13,
        14, 13, 12, 11, 10, 9, 8, 7, 6, 5, 4, 3, 2, 1};
    private static final int[] TIDES = {7, 6, 5, 4, 3, 2, 1, 0, 1, 2, 3, 4, 5, 6,
        7, 6, 5, 4, 3, 2, 1, 0, 1, 2, 3, 4, 5, 6};
    private static final int[] CLOUDS = {0, 3, 9};
    private static final int[] WRONG_NIGHTS = {-1, 2001, Integer.MIN_VALUE, Integer.MAX_VALUE};
    private static final int[] WRONG_SORTS = {-1, 4, Integer.MIN_VALUE, Integer.MAX_VALUE};

    public static void main(String[] args) {
        nightAndLimits();
        lightTideCloud();
        wrongNightsAndSorts();
        justified();
        nextJustified();
        justifiedNights();
        likeliestSort();
        Check.end("MoonTest");
    }

    private static void nightAndLimits() {
        MoonComplaintWindow window = Check.loaded("moon 11 3 5;clouds 1 2 3 4;");
        Check.due("night", window.night(), 0);
        window.endNights(60);
        Check.due("night", window.night(), 60);
        window.endNights(1);
        Check.due("night", window.night(), 61);
        Check.due("glareLimit", window.glareLimit(), 11);
        Check.due("gloomLimit", window.gloomLimit(), 3);
        Check.due("tideLimit", window.tideLimit(), 5);
        Check.due("cloudCount", window.cloudCount(), 4);
        Check.due("cloudCount", Check.loaded("moon 11 3 5;clouds 1;").cloudCount(), 1);
        Check.due("cloudCount", Check.loaded("moon 11 3 5;clouds 1 2 3 4 5 6 7 8 9 0;").cloudCount(), 10);
    }

    private static void lightTideCloud() {
        MoonComplaintWindow window = new MoonComplaintWindow();
        for (int night = 0; night <= 2000; night++) {
            window = night % 100 == 0 ? new MoonComplaintWindow() : window;
            int light = LIGHTS[night % 28];
            int cloud = CLOUDS[night % 3];
            Check.due("lightOf " + night, window.lightOf(night), light);
            Check.due("tideOf " + night, window.tideOf(night), TIDES[night % 28]);
            Check.due("cloudOf " + night, window.cloudOf(night), cloud);
            Check.due("visibleLight " + night, window.visibleLight(night), light * (10 - cloud) / 10);
        }
        // 14 light under 9 clouds is 1.4; 13 under 3 is 9.1; 9 under 9 is 0.9.
        Check.due("visibleLight", window.visibleLight(14), 1);
        Check.due("visibleLight", window.visibleLight(13), 9);
        Check.due("visibleLight", Check.loaded("moon 1 0 0;clouds 9;").visibleLight(9), 0);
        Check.due("visibleLight", Check.loaded("moon 1 0 0;clouds 0;").visibleLight(14), 14);
        // Queries tell of any night, whatever the present one is.
        window.endNights(5);
        Check.due("lightOf", window.lightOf(3), 3);
        Check.due("cloudOf", window.cloudOf(3), 0);
    }

    private static void wrongNightsAndSorts() {
        MoonComplaintWindow window = new MoonComplaintWindow();
        Class<IllegalArgumentException> wrong = IllegalArgumentException.class;
        for (int night : WRONG_NIGHTS) {
            Check.dueThrow("lightOf " + night, wrong, () -> window.lightOf(night));
            Check.dueThrow("tideOf " + night, wrong, () -> window.tideOf(night));
            Check.dueThrow("cloudOf " + night, wrong, () -> window.cloudOf(night));
            Check.dueThrow("visibleLight " + night, wrong, () -> window.visibleLight(night));
            Check.dueThrow("isJustified 0 " + night, wrong, () -> window.isJustified(0, night) ? 1 : 0);
        }
        for (int sort : WRONG_SORTS) {
            Check.dueThrow("isJustified " + sort, wrong, () -> window.isJustified(sort, 0) ? 1 : 0);
            Check.dueThrow("nextJustified " + sort, wrong, () -> window.nextJustified(sort));
            Check.dueThrow("justifiedNights " + sort, wrong, () -> window.justifiedNights(sort));
        }
    }

    private static void justified() {
        MoonComplaintWindow window = new MoonComplaintWindow();
        for (int night = 0; night <= 2000; night++) {
            window = night % 100 == 0 ? new MoonComplaintWindow() : window;
            int light = LIGHTS[night % 28];
            int cloud = CLOUDS[night % 3];
            int visible = light * (10 - cloud) / 10;
            Check.due("GLARE " + night, window.isJustified(0, night), visible >= 8);
            Check.due("GLOOM " + night, window.isJustified(1, night), visible <= 2);
            Check.due("TIDE " + night, window.isJustified(2, night), TIDES[night % 28] >= 6);
            Check.due("FACE " + night, window.isJustified(3, night), light >= 4 && cloud <= 2);
        }
        // The limits themselves count: 5 visible in night 5, 2 tide in night 5, light 4 in night 4, clouds 2 and 3.
        MoonComplaintWindow edge = Check.loaded("moon 5 5 2;clouds 0;");
        Check.due("GLARE at 4", edge.isJustified(0, 4), false);
        Check.due("GLARE at 5", edge.isJustified(0, 5), true);
        Check.due("GLOOM at 5", edge.isJustified(1, 5), true);
        Check.due("GLOOM at 6", edge.isJustified(1, 6), false);
        Check.due("TIDE at 5", edge.isJustified(2, 5), true);
        Check.due("TIDE at 6", edge.isJustified(2, 6), false);
        Check.due("FACE at 3", edge.isJustified(3, 3), false);
        Check.due("FACE at 4", edge.isJustified(3, 4), true);
        // FACE asks for the light itself, not the visible one: 4 under 2 clouds is only 3 visible.
        Check.due("FACE under 2", Check.loaded("moon 5 5 2;clouds 2;").isJustified(3, 4), true);
        Check.due("FACE under 3", Check.loaded("moon 5 5 2;clouds 3;").isJustified(3, 14), false);
    }

    private static void nextJustified() {
        MoonComplaintWindow window = new MoonComplaintWindow();
        // Visible lights: night 9 is the first of 8 or more (9 under no clouds); night 0 has 0; tide 7 in night 0.
        Check.due("GLARE", window.nextJustified(0), 9);
        Check.due("GLOOM", window.nextJustified(1), 0);
        Check.due("TIDE", window.nextJustified(2), 0);
        Check.due("FACE", window.nextJustified(3), 6);
        window.endNights(10);
        // Night 10 has 10 under 3: 7; night 12 has 12 under 0.
        Check.due("GLARE", window.nextJustified(0), 12);
        Check.due("GLOOM", window.nextJustified(1), 11);
        Check.due("TIDE", window.nextJustified(2), 13);
        Check.due("FACE", window.nextJustified(3), 12);
        MoonComplaintWindow never = Check.loaded("moon 14 0 7;clouds 3;");
        Check.dueThrow("GLARE never", NoSuchElementException.class, () -> never.nextJustified(0));
        Check.dueThrow("FACE never", NoSuchElementException.class, () -> never.nextJustified(3));
        never.endNights(1);
        Check.due("GLOOM", never.nextJustified(1), 1);
        Check.due("TIDE", never.nextJustified(2), 14);
        farthest();
        beyondTheLastNight();
    }

    private static void farthest() {
        // Ten clouds and 28 ages make 140 nights.
        MoonComplaintWindow window = Check.loaded("moon 14 0 0;clouds 9 9 9 9 0 9 9 9 9 9;");
        Check.due("first", window.nextJustified(0), 14);
        window.endNights(15);
        Check.due("140 nights farther", window.nextJustified(0), 154);
        // Three clouds and 28 ages make 84 nights.
        MoonComplaintWindow three = Check.loaded("moon 14 0 0;clouds 9 9 0;");
        Check.due("first", three.nextJustified(0), 14);
        three.endNights(15);
        Check.due("84 nights farther", three.nextJustified(0), 98);
        // Nine clouds and 28 ages make 252 nights: from night 15 the next one is night 266.
        MoonComplaintWindow nine = Check.loaded("moon 14 0 0;clouds 9 9 9 9 9 0 9 9 9;");
        Check.due("first", nine.nextJustified(0), 14);
        nine.endNights(15);
        Check.due("252 nights farther", nine.nextJustified(0), 266);
        nine.setCloud(5, 9);
        Check.dueThrow("none in 280 nights", NoSuchElementException.class, () -> nine.nextJustified(0));
    }

    private static void beyondTheLastNight() {
        MoonComplaintWindow window = Check.loaded("moon 14 0 7;clouds 9 9 9 9 9 0 9 9 9;");
        for (int i = 0; i < 16; i++) {
            window.endNights(60);
        }
        window.endNights(39);
        Check.due("night", window.night(), 999);
        // 14 + 252 * 4 = 1022.
        Check.due("GLARE", window.nextJustified(0), 1022);
        Check.due("justifiedNights", window.justifiedNights(0), 1);
        Check.due("TIDE", window.nextJustified(2), 1008);
    }

    private static void justifiedNights() {
        MoonComplaintWindow window = new MoonComplaintWindow();
        Check.due("GLARE", window.justifiedNights(0), 6);
        Check.due("GLOOM", window.justifiedNights(1), 14);
        Check.due("TIDE", window.justifiedNights(2), 6);
        Check.due("FACE", window.justifiedNights(3), 7);
        // Light 14 only in night 14: it is counted from night 0 and from night 14, and again 28 nights later.
        MoonComplaintWindow full = Check.loaded("moon 14 0 7;clouds 0;");
        Check.due("GLARE", full.justifiedNights(0), 1);
        Check.due("GLOOM", full.justifiedNights(1), 1);
        Check.due("TIDE", full.justifiedNights(2), 2);
        Check.due("FACE", full.justifiedNights(3), 21);
        // A single clear night in ten: which of them fall into the 28 depends on the present night.
        MoonComplaintWindow ten = Check.loaded("moon 1 0 7;clouds 9 9 9 9 9 9 9 9 9 0;");
        // Visible light of 1 or more: nights 9, 19 and the nights of light 10 to 14 (10 to 18) under 9 clouds.
        Check.due("GLARE", ten.justifiedNights(0), 11);
        ten.endNights(2);
        // Nights 2 to 29: besides these 11, night 29 (light 1, no cloud).
        Check.due("GLARE", ten.justifiedNights(0), 12);
        // Nights 3 to 30, night 30 has light 2 under 9 clouds.
        ten.endNights(1);
        Check.due("GLARE", ten.justifiedNights(0), 12);
    }

    private static void likeliestSort() {
        Check.due("GLOOM", new MoonComplaintWindow().likeliestSort(), 1);
        Check.due("FACE", Check.loaded("moon 14 0 7;clouds 0;").likeliestSort(), 3);
        Check.due("TIDE", Check.loaded("moon 14 0 1;clouds 0;").likeliestSort(), 2);
        // GLARE from 1 on is 27 nights, TIDE from 0 on is 28.
        Check.due("TIDE", Check.loaded("moon 1 0 0;clouds 0;").likeliestSort(), 2);
        // GLARE from 1 on is 27 nights, TIDE from 1 on is 26.
        Check.due("GLARE", Check.loaded("moon 1 0 1;clouds 0;").likeliestSort(), 0);
        // GLOOM up to 13 and TIDE from 0 on under 9 clouds: 28 nights each.
        Check.due("GLOOM", Check.loaded("moon 14 13 0;clouds 9;").likeliestSort(), 1);
        // GLARE from 4 on and FACE under no clouds: 21 nights each.
        Check.due("GLARE", Check.loaded("moon 4 0 7;clouds 0;").likeliestSort(), 0);
        // It is the nights from the present one on that count: night 0 to 27 have night 9 and 19 clear.
        MoonComplaintWindow ten = Check.loaded("moon 1 0 4;clouds 9 9 9 9 9 9 9 9 9 0;");
        Check.due("GLOOM", ten.likeliestSort(), 1);
        ten.setGloomLimit(0);
        ten.setTideLimit(3);
        // GLOOM: 28 - 11 nights; TIDE from 3 on: twice 14 - 5.
        Check.due("TIDE", ten.likeliestSort(), 2);
        ten.setTideLimit(4);
        Check.due("GLOOM", ten.likeliestSort(), 1);
    }
}
