import java.util.NoSuchElementException;

/**
 * The bounds under "3. Clerks" and "4. The end of a night" and of promises 39 to 51, 54, 55 and 60: a method for each
 * sentence that names one.
 */
public final class NightBoundsTest {
    private static final Class<IllegalArgumentException> WRONG_ARGUMENT = IllegalArgumentException.class;
    private static final Class<IllegalStateException> WRONG_STATE = IllegalStateException.class;
    private static final Class<IndexOutOfBoundsException> WRONG_INDEX = IndexOutOfBoundsException.class;
    // Under nine clouds the visible light is at most 1, so that handling costs 6 in every night.
    private static final String DARK = "moon 14 0 7;clouds 9;";
    private static final String CLEAR = "moon 14 0 7;clouds 0;";
    private static final String FIVE_CLERKS = DARK + "clerk 1 1;clerk 2 2;clerk 3 3;clerk 4 4;clerk 5 5;";

    public static void main(String[] args) {
        atMost5Clerks();
        skillsAre1To9();
        oilIs0To99();
        oilAbove99IsLost();
        dropsAre1To99();
        queriesOfNoSuchClerk();
        darkestIsTheLowestOfSeveral();
        theCostIs2To6();
        oilThatIsJustEnough();
        oilForTheNextOne();
        oilForADismissal();
        asManyAsOnePlusAThirdOfTheSkill();
        asManyDismissalsToo();
        theClerkWhoDismissed();
        clerksWorkInTheirOrder();
        theGreatestAngerTheLowestNumber();
        angerGrowsBehindTheWork();
        dismissedFromTheAgeOf14();
        theGreatestAgeTheLowestNumber();
        answersComeBeforeDismissals();
        doneWithoutComplaints();
        angerGrowsAtMultiplesOf7();
        angerIsAtMost9();
        givenUpAtTheAgeOf56();
        closedInTheLastNightBefore();
        countsAre1To60();
        nightsEndOneAfterTheOther();
        meanWaitAndShareOfNone();
        answersTonightAtItsBounds();
        nightsToCloseAtItsBounds();
        predictionsBeyond999();
        Check.end("NightBoundsTest");
    }

    private static MoonComplaintWindow inNight(String text, int night) {
        return MoonBoundsTest.inNight(text, night);
    }

    /** "There are at most 5 clerks, numbered from 0." */
    private static void atMost5Clerks() {
        MoonComplaintWindow window = Check.loaded(DARK);
        Check.due("clerkCount of none", window.clerkCount(), 0);
        for (int i = 0; i < 5; i++) {
            Check.due("clerk " + i, window.addClerk(1 + i, 10 + i), i);
        }
        Check.due("clerkCount", window.clerkCount(), 5);
        Check.due("skillOf the 5th", window.skillOf(4), 5);
        Check.due("oilOf the 5th", window.oilOf(4), 14);
        Refused.due("the 6th", WRONG_STATE, () -> Check.loaded(FIVE_CLERKS), w -> w.addClerk(1, 0));
    }

    /** "A clerk has a skill of 1 to 9" */
    private static void skillsAre1To9() {
        MoonComplaintWindow window = Check.loaded(DARK);
        window.addClerk(1, 50);
        window.addClerk(9, 50);
        Check.due("skillOf 0", window.skillOf(0), 1);
        Check.due("skillOf 1", window.skillOf(1), 9);
        for (int skill : new int[] {0, 10, -1, Integer.MIN_VALUE, Integer.MAX_VALUE}) {
            Refused.due("a skill of " + skill, WRONG_ARGUMENT, () -> Check.loaded(DARK), w -> w.addClerk(skill, 50));
        }
    }

    /** "and a lantern with 0 to 99 drops of oil" */
    private static void oilIs0To99() {
        MoonComplaintWindow window = Check.loaded(DARK);
        window.addClerk(5, 0);
        window.addClerk(5, 99);
        Check.due("oilOf 0", window.oilOf(0), 0);
        Check.due("oilOf 1", window.oilOf(1), 99);
        for (int oil : new int[] {-1, 100, Integer.MIN_VALUE, Integer.MAX_VALUE}) {
            Refused.due("oil of " + oil, WRONG_ARGUMENT, () -> Check.loaded(DARK), w -> w.addClerk(5, oil));
        }
    }

    /** "Oil above 99 drops is lost." */
    private static void oilAbove99IsLost() {
        int[][] due = {{98, 1, 99}, {97, 1, 98}, {98, 2, 99}, {99, 1, 99}, {99, 99, 99}, {0, 99, 99}, {1, 98, 99},
            {1, 99, 99}, {0, 98, 98}, {0, 1, 1}};
        for (int[] d : due) {
            MoonComplaintWindow window = Check.loaded(DARK + "clerk 1 " + d[0] + ";");
            Check.due("refill of " + d[0] + " by " + d[1], window.refill(0, d[1]), d[2]);
            Check.due("oilOf", window.oilOf(0), d[2]);
            Check.due("oilUsed", window.oilUsed(), 0);
        }
    }

    /** "`drops`: 1 to 99" */
    private static void dropsAre1To99() {
        for (int drops : new int[] {0, 100, -1, Integer.MIN_VALUE, Integer.MAX_VALUE}) {
            Refused.due("refill by " + drops, WRONG_ARGUMENT, () -> Check.loaded(FIVE_CLERKS), w -> w.refill(0, drops));
        }
        Check.due("refill by 1", Check.loaded(FIVE_CLERKS).refill(4, 1), 6);
        Check.due("refill by 99", Check.loaded(DARK + "clerk 1 0;").refill(0, 99), 99);
    }

    /** "Throws IndexOutOfBoundsException if there is no such clerk": of four calls. */
    private static void queriesOfNoSuchClerk() {
        for (int clerk : new int[] {-1, 5, Integer.MIN_VALUE, Integer.MAX_VALUE}) {
            noSuchClerk("of five", FIVE_CLERKS, clerk);
        }
        noSuchClerk("of none", DARK, 0);
        noSuchClerk("of one", DARK + "clerk 1 1;", 1);
        MoonComplaintWindow window = Check.loaded(FIVE_CLERKS);
        Check.due("the last", window.skillOf(4), 5);
        Check.due("the last", window.oilOf(4), 5);
        Check.due("the last", window.answeredBy(4), 0);
        Check.due("the last", window.refill(4, 1), 6);
    }

    private static void noSuchClerk(String what, String text, int clerk) {
        String number = " " + clerk + " " + what;
        Refused.due("skillOf" + number, WRONG_INDEX, () -> Check.loaded(text), w -> w.skillOf(clerk));
        Refused.due("oilOf" + number, WRONG_INDEX, () -> Check.loaded(text), w -> w.oilOf(clerk));
        Refused.due("answeredBy" + number, WRONG_INDEX, () -> Check.loaded(text), w -> w.answeredBy(clerk));
        Refused.due("refill" + number, WRONG_INDEX, () -> Check.loaded(text), w -> w.refill(clerk, 1));
    }

    /** "the clerk with the least oil, the lowest number of several"; "if there are no clerks" */
    private static void darkestIsTheLowestOfSeveral() {
        Refused.due("of none", NoSuchElementException.class, () -> Check.loaded(DARK), w -> w.darkestClerk());
        Check.due("of one with all the oil", Check.loaded(DARK + "clerk 1 99;").darkestClerk(), 0);
        Check.due("of equal ones", Check.loaded(DARK + "clerk 1 99;clerk 2 99;clerk 3 99;").darkestClerk(), 0);
        Check.due("of two equal ones", Check.loaded(DARK + "clerk 1 9;clerk 2 0;clerk 3 0;").darkestClerk(), 1);
        Check.due("the first of five",
                Check.loaded(DARK + "clerk 1 5;clerk 2 6;clerk 3 7;clerk 1 8;clerk 1 9;").darkestClerk(), 0);
        Check.due("the fifth", Check.loaded(DARK + "clerk 1 9;clerk 2 8;clerk 3 7;clerk 1 6;clerk 1 5;").darkestClerk(), 4);
    }

    /** "6 drops minus a third of the visible light of the night (rounded down), which are 2 to 6 drops" */
    private static void theCostIs2To6() {
        int[] due = {6, 6, 6, 5, 5, 5, 4, 4, 4, 3, 3, 3, 2, 2, 2, 2, 2, 3};
        for (int night = 0; night < due.length; night++) {
            Check.due("oilCost in night " + night, inNight(CLEAR, night).oilCost(), due[night]);
        }
        Check.due("oilCost of the visible light: 1 in night 14", inNight(DARK, 14).oilCost(), 6);
        Check.due("oilCost of the visible light: 2 in night 14", inNight("moon 14 0 7;clouds 8;", 14).oilCost(), 6);
        Check.due("oilCost of the visible light: 4 in night 14", inNight("moon 14 0 7;clouds 7;", 14).oilCost(), 5);
    }

    /** A window in this night with one clerk and some complaints of TIDE, which is justified in every night. */
    private static MoonComplaintWindow clerkInNight(int night, int skill, int oil, int complaints) {
        MoonComplaintWindow window = inNight("moon 14 0 0;clouds 0;clerk " + skill + " " + oil + ";", night);
        for (int i = 0; i < complaints; i++) {
            window.fileComplaint(i, 2, 5);
        }
        return window;
    }

    /** "only as long as the oil of the lantern is enough for the next one": the first one. */
    private static void oilThatIsJustEnough() {
        // The nights 0, 3, 6, 9 and 12 cost 6, 5, 4, 3 and 2 drops.
        for (int cost = 2; cost <= 6; cost++) {
            int night = (6 - cost) * 3;
            MoonComplaintWindow enough = clerkInNight(night, 9, cost, 1);
            Check.due("answersTonight with just enough for " + cost, enough.answersTonight(), 1);
            Check.due("just enough for " + cost, enough.endNights(1), 1);
            Check.due("oilOf", enough.oilOf(0), 0);
            Check.due("oilUsed", enough.oilUsed(), cost);
            MoonComplaintWindow tooLittle = clerkInNight(night, 9, cost - 1, 1);
            Check.due("answersTonight with just not enough for " + cost, tooLittle.answersTonight(), 0);
            Check.due("just not enough for " + cost, tooLittle.endNights(1), 0);
            Check.due("isWaiting", tooLittle.isWaiting(0), true);
            Check.due("oilOf", tooLittle.oilOf(0), cost - 1);
            Check.due("oilUsed", tooLittle.oilUsed(), 0);
        }
        Check.due("no oil at all", clerkInNight(14, 9, 0, 1).endNights(1), 0);
    }

    /** The same of the second, third and fourth one of a night. */
    private static void oilForTheNextOne() {
        for (int cost = 2; cost <= 6; cost++) {
            int night = (6 - cost) * 3;
            for (int count = 2; count <= 4; count++) {
                MoonComplaintWindow enough = clerkInNight(night, 9, cost * count, 4);
                Check.due("oil for " + count + " at " + cost, enough.endNights(1), count);
                Check.due("oilOf", enough.oilOf(0), 0);
                MoonComplaintWindow tooLittle = clerkInNight(night, 9, cost * count - 1, 4);
                Check.due("just not for " + count + " at " + cost, tooLittle.endNights(1), count - 1);
                Check.due("oilOf", tooLittle.oilOf(0), cost - 1);
                Check.due("oilUsed", tooLittle.oilUsed(), cost * (count - 1));
            }
        }
    }

    private static void oilForADismissal() {
        String complaint = "complaint 1 glare 1;complaint 2 face 9;";
        MoonComplaintWindow enough = inNight(DARK + "clerk 9 6;" + complaint, 15);
        Check.due("just enough for one", enough.dismissedCount(), 1);
        Check.due("oilOf", enough.oilOf(0), 0);
        Check.due("oilUsed", enough.oilUsed(), 6);
        MoonComplaintWindow tooLittle = inNight(DARK + "clerk 9 5;" + complaint, 15);
        Check.due("just not enough", tooLittle.dismissedCount(), 0);
        Check.due("oilOf", tooLittle.oilOf(0), 5);
        Check.due("just enough for two", inNight(DARK + "clerk 9 12;" + complaint, 15).dismissedCount(), 2);
        Check.due("just not enough for two", inNight(DARK + "clerk 9 11;" + complaint, 15).dismissedCount(), 1);
    }

    /** "A clerk handles at most as many complaints as 1 plus a third of the skill (rounded down)" */
    private static void asManyAsOnePlusAThirdOfTheSkill() {
        int[] due = {1, 1, 2, 2, 2, 3, 3, 3, 4};
        for (int skill = 1; skill <= 9; skill++) {
            int most = due[skill - 1];
            MoonComplaintWindow more = clerkInNight(0, skill, 99, most + 1);
            Check.due("one more than a skill of " + skill + " is for", more.endNights(1), most);
            Check.due("the last one waits on", more.isWaiting(most), true);
            Check.due("waitingCount", more.waitingCount(), 1);
            Check.due("answeredBy", more.answeredBy(0), most);
            Check.due("oilOf", more.oilOf(0), 99 - 6 * most);
            MoonComplaintWindow just = clerkInNight(0, skill, 99, most);
            Check.due("just as many", just.endNights(1), most);
            Check.due("answeredBy, the last complaint too", just.answeredBy(0), most);
        }
    }

    /** Dismissals count among the handled ones. */
    private static void asManyDismissalsToo() {
        String four = "complaint 1 glare 1;complaint 2 glare 1;complaint 3 glare 1;complaint 4 glare 1;";
        Check.due("a skill of 2", inNight(DARK + "clerk 2 99;" + four, 15).dismissedCount(), 1);
        Check.due("a skill of 3", inNight(DARK + "clerk 3 99;" + four, 15).dismissedCount(), 2);
        Check.due("a skill of 8", inNight(DARK + "clerk 8 99;" + four, 15).dismissedCount(), 3);
        Check.due("a skill of 9", inNight(DARK + "clerk 9 99;" + four, 15).dismissedCount(), 4);
        // In night 14 TIDE is justified: one answer and one dismissal make two.
        MoonComplaintWindow mixed = inNight(DARK + "clerk 3 99;" + four, 14);
        mixed.fileComplaint(5, 2, 1);
        Check.due("one answer", mixed.endNights(1), 1);
        Check.due("and one dismissal", mixed.dismissedCount(), 1);
    }

    /** "the clerk who answered or dismissed it" */
    private static void theClerkWhoDismissed() {
        MoonComplaintWindow window = inNight(DARK + "clerk 9 5;clerk 1 6;clerk 3 12;"
                + "complaint 1 glare 1;complaint 2 glare 1;complaint 3 glare 1;", 15);
        Check.due("dismissedCount", window.dismissedCount(), 3);
        Check.due("clerkOf 0: the first clerk has too little oil", window.clerkOf(0), 1);
        Check.due("clerkOf 1", window.clerkOf(1), 2);
        Check.due("clerkOf 2", window.clerkOf(2), 2);
        MoonComplaintWindow fifth = inNight(DARK + "clerk 1 0;clerk 1 0;clerk 1 0;clerk 1 0;clerk 1 6;"
                + "complaint 1 glare 1;", 15);
        Check.due("clerkOf: the fifth", fifth.clerkOf(0), 4);
    }

    /** "the clerks work in the order of their numbers" */
    private static void clerksWorkInTheirOrder() {
        MoonComplaintWindow window = Check.loaded("moon 14 0 0;clouds 0;clerk 1 6;clerk 9 5;"
                + "clerk 3 11;clerk 3 12;clerk 1 99;"
                + "complaint 1 tide 1;complaint 2 tide 2;complaint 3 tide 3;complaint 4 tide 4;complaint 5 tide 5;");
        Check.due("endNights", window.endNights(1), 5);
        Check.due("the angriest of five", window.clerkOf(4), 0);
        Check.due("oil of 5 is too little, oil of 11 is for one", window.clerkOf(3), 2);
        Check.due("oil of 12 is for two", window.clerkOf(2), 3);
        Check.due("oil of 12 is for two", window.clerkOf(1), 3);
        Check.due("the least angry", window.clerkOf(0), 4);
        Check.due("oilUsed", window.oilUsed(), 30);
        Check.due("oilOf the one who could not", window.oilOf(1), 5);
    }

    /** "the greatest anger among those that are justified in this night (the lowest number of several)" */
    private static void theGreatestAngerTheLowestNumber() {
        MoonComplaintWindow window = Check.loaded(CLEAR + "clerk 1 99;"
                + "complaint 1 gloom 4;complaint 2 tide 7;complaint 3 gloom 7;complaint 4 face 9;complaint 5 glare 9;");
        Check.due("endNights", window.endNights(1), 1);
        Check.due("the first of anger 7", window.isAnswered(1), true);
        Check.due("waitingCount", window.waitingCount(), 4);
        MoonComplaintWindow two = Check.loaded(CLEAR + "clerk 3 99;"
                + "complaint 1 gloom 4;complaint 2 tide 7;complaint 3 gloom 7;complaint 4 tide 4;");
        Check.due("endNights", two.endNights(1), 2);
        Check.due("the first of anger 7", two.isAnswered(1), true);
        Check.due("the second of anger 7", two.isAnswered(2), true);
        Check.due("anger 9 against 8", answeredFirst("complaint 1 gloom 8;complaint 2 gloom 9;"), 1);
        Check.due("anger 2 against 1", answeredFirst("complaint 1 gloom 2;complaint 2 gloom 1;"), 0);
        Check.due("the same anger", answeredFirst("complaint 9 gloom 1;complaint 2 gloom 1;"), 0);
    }

    private static int answeredFirst(String complaints) {
        MoonComplaintWindow window = Check.loaded(CLEAR + "clerk 1 99;" + complaints);
        window.endNights(1);
        return window.isAnswered(0) ? 0 : 1;
    }

    /** "After that, for each complaint that is still waiting": an answered one keeps its anger. */
    private static void angerGrowsBehindTheWork() {
        // TIDE is justified in every night; night 6 ends with the age of 7.
        MoonComplaintWindow window = inNight("moon 14 0 0;clouds 9;clerk 1 0;complaint 1 tide 3;complaint 2 tide 3;", 6);
        window.refill(0, 6);
        window.endNights(1);
        Check.due("angerOf the answered one", window.angerOf(0), 3);
        Check.due("angerOf the waiting one", window.angerOf(1), 4);
        Check.due("comfort", window.comfort(), 3);
        window.refill(0, 6);
        window.endNights(1);
        Check.due("comfort: the anger at the end", window.comfort(), 7);
    }

    /** "the greatest age among those whose age is at least 14 .., which is dismissed" */
    private static void dismissedFromTheAgeOf14() {
        String text = DARK + "clerk 9 99;complaint 1 glare 9;";
        Check.due("at the age of 13 it isn't", inNight(text, 14).dismissedCount(), 0);
        Check.due("isWaiting", inNight(text, 14).isWaiting(0), true);
        Check.due("oilUsed", inNight(text, 14).oilUsed(), 0);
        MoonComplaintWindow window = inNight(text, 15);
        Check.due("at the age of 14 it is", window.isDismissed(0), true);
        Check.due("closedIn", window.closedIn(0), 14);
        Check.due("oilUsed", window.oilUsed(), 6);
        Check.due("angerOf", window.angerOf(0), 9);
        MoonComplaintWindow later = Check.loaded(DARK + "clerk 9 99;");
        later.endNights(3);
        later.fileComplaint(1, 0, 1);
        later.endNights(14);
        Check.due("filed in 3: in night 16 it isn't", later.isWaiting(0), true);
        later.endNights(1);
        Check.due("filed in 3: in night 17 it is", later.closedIn(0), 17);
    }

    /** "the greatest age .. (the lowest number of several)" */
    private static void theGreatestAgeTheLowestNumber() {
        MoonComplaintWindow window = Check.loaded(DARK + "clerk 1 0;complaint 1 glare 1;complaint 2 glare 1;");
        window.endNights(1);
        window.fileComplaint(3, 0, 9);
        window.endNights(14);
        Check.due("night", window.night(), 15);
        int[] due = {0, 1, 2};
        for (int number : due) {
            window.refill(0, 6);
            window.endNights(1);
            Check.due("dismissedCount", window.dismissedCount(), number + 1);
            Check.due("dismissed next", window.isDismissed(number), true);
        }
    }

    /** "if there is none, the clerk takes the waiting complaint with the greatest age .." */
    private static void answersComeBeforeDismissals() {
        // In night 14 TIDE is justified: the new one of anger 1 comes before the old one of anger 9.
        MoonComplaintWindow window = inNight(DARK + "clerk 1 99;complaint 1 glare 9;", 14);
        window.fileComplaint(2, 2, 1);
        Check.due("one answer", window.endNights(1), 1);
        Check.due("the old one waits on", window.isWaiting(0), true);
        Check.due("no answer", window.endNights(1), 0);
        Check.due("the old one is dismissed", window.isDismissed(0), true);
        // An old one that is justified is answered, not dismissed.
        MoonComplaintWindow old = inNight(DARK + "clerk 9 5;complaint 1 tide 1;", 28);
        old.refill(0, 99);
        Check.due("answered at the age of 28", old.endNights(1), 1);
        Check.due("isAnswered", old.isAnswered(0), true);
    }

    /** "if there is none of these either, the clerk is done" */
    private static void doneWithoutComplaints() {
        MoonComplaintWindow none = Check.loaded(CLEAR + "clerk 9 99;");
        Check.due("no complaints", none.endNights(60), 0);
        Check.due("oilUsed", none.oilUsed(), 0);
        MoonComplaintWindow one = clerkInNight(0, 9, 99, 1);
        one.endNights(1);
        Check.due("one complaint: oilOf", one.oilOf(0), 93);
        MoonComplaintWindow young = inNight(DARK + "clerk 9 99;complaint 1 glare 1;", 13);
        Check.due("none that is justified or old: oilOf", young.oilOf(0), 99);
        MoonComplaintWindow noClerks = inNight(CLEAR + "complaint 1 tide 1;", 20);
        Check.due("no clerks", noClerks.isWaiting(0), true);
    }

    /** "if the new age is a multiple of 7, its anger increases by 1" */
    private static void angerGrowsAtMultiplesOf7() {
        MoonComplaintWindow window = Check.loaded(DARK + "complaint 1 glare 1;");
        for (int age = 1; age <= 56; age++) {
            window.endNights(1);
            Check.due("anger at the age of " + age, window.angerOf(0), Math.min(9, 1 + age / 7));
        }
        MoonComplaintWindow later = inNight(DARK, 5);
        later.fileComplaint(1, 0, 1);
        later.endNights(6);
        Check.due("filed in 5: at the age of 6", later.angerOf(0), 1);
        later.endNights(1);
        Check.due("filed in 5: at the age of 7", later.angerOf(0), 2);
        later.endNights(1);
        Check.due("filed in 5: at the age of 8", later.angerOf(0), 2);
        later.endNights(5);
        Check.due("filed in 5: at the age of 13", later.angerOf(0), 2);
        later.endNights(1);
        Check.due("filed in 5: at the age of 14", later.angerOf(0), 3);
    }

    /** "but to at most 9" */
    private static void angerIsAtMost9() {
        MoonComplaintWindow window = inNight(DARK + "complaint 1 glare 8;complaint 2 glare 9;complaint 3 glare 7;", 7);
        Check.due("8 becomes 9", window.angerOf(0), 9);
        Check.due("9 stays", window.angerOf(1), 9);
        Check.due("7 becomes 8", window.angerOf(2), 8);
        window.endNights(7);
        Check.due("9 stays", window.angerOf(0), 9);
        Check.due("9 stays", window.angerOf(1), 9);
        Check.due("8 becomes 9", window.angerOf(2), 9);
        window.endNights(7);
        Check.due("9 stays", window.angerOf(2), 9);
    }

    /** "if the new age is 56, the complaint is given up (behind that increase)" */
    private static void givenUpAtTheAgeOf56() {
        String text = DARK + "complaint 1 glare 1;complaint 2 glare 9;";
        Check.due("at the age of 55 it waits", inNight(text, 55).isWaiting(0), true);
        Check.due("its anger", inNight(text, 55).angerOf(0), 8);
        MoonComplaintWindow window = inNight(text, 56);
        Check.due("at the age of 56 it doesn't", window.isGivenUp(0), true);
        Check.due("behind the increase", window.angerOf(0), 9);
        Check.due("behind the increase to at most 9", window.angerOf(1), 9);
        Check.due("closedIn", window.closedIn(0), 56);
        Check.due("givenUpCount", window.givenUpCount(), 2);
        Check.due("waitingCount", window.waitingCount(), 0);
        window.endNights(60);
        Check.due("its anger stays", window.angerOf(0), 9);
        Check.due("closedIn stays", window.closedIn(0), 56);
        MoonComplaintWindow atTheEnd = inNight(DARK, 943);
        atTheEnd.fileComplaint(1, 0, 1);
        atTheEnd.fileComplaint(1, 1, 1);
        atTheEnd.endNights(56);
        Check.due("closedIn of the last night", atTheEnd.closedIn(0), 999);
    }

    /** When the night ends in which the age is 55, the clerks work before the complaint is given up. */
    private static void closedInTheLastNightBefore() {
        MoonComplaintWindow dismissed = inNight(DARK + "clerk 1 5;complaint 1 glare 1;", 55);
        dismissed.refill(0, 1);
        Check.due("willBeAnswered", dismissed.willBeAnswered(0), false);
        dismissed.endNights(1);
        Check.due("dismissed", dismissed.isDismissed(0), true);
        Check.due("closedIn", dismissed.closedIn(0), 55);
        Check.due("angerOf: no increase any more", dismissed.angerOf(0), 8);
        MoonComplaintWindow answered = inNight("moon 14 0 0;clouds 9;clerk 1 5;complaint 1 tide 1;", 55);
        Check.due("willBeAnswered without oil", answered.willBeAnswered(0), false);
        answered.refill(0, 1);
        Check.due("willBeAnswered", answered.willBeAnswered(0), true);
        answered.endNights(1);
        Check.due("answered", answered.isAnswered(0), true);
        Check.due("closedIn", answered.closedIn(0), 55);
        Check.due("comfort", answered.comfort(), 8);
        Check.due("meanWait", answered.meanWait(), 55.0);
    }

    /** "`count`: 1 to 60" */
    private static void countsAre1To60() {
        MoonComplaintWindow window = new MoonComplaintWindow();
        window.endNights(1);
        Check.due("night", window.night(), 1);
        window.endNights(60);
        Check.due("night", window.night(), 61);
        for (int count : new int[] {0, 61, -1, Integer.MIN_VALUE, Integer.MAX_VALUE}) {
            Refused.due("endNights " + count, WRONG_ARGUMENT, MoonComplaintWindow::new, w -> w.endNights(count));
        }
    }

    /** "Ends nights, one after the other."; "the number of complaints that are answered in these nights" */
    private static void nightsEndOneAfterTheOther() {
        String text = "moon 9 1 6;clouds 1 4 0 7 2;clerk 4 40;clerk 1 60;"
                + "complaint 1 glare 1;complaint 1 gloom 2;complaint 1 tide 6;complaint 1 face 9;"
                + "complaint 2 glare 7;complaint 2 gloom 2;complaint 2 tide 3;complaint 2 face 4;";
        MoonComplaintWindow together = Check.loaded(text);
        MoonComplaintWindow single = Check.loaded(text);
        int answered = 0;
        for (int i = 0; i < 60; i++) {
            answered += single.endNights(1);
        }
        Check.due("60 nights at once", together.endNights(60), answered);
        Check.due("the state behind them", Check.state(together), Check.state(single));
        Check.due("answeredCount", together.answeredCount(), answered);
        Check.due("60 nights are one change", together.undo(), 0);
        Check.due("night", together.night(), 0);
    }

    /** "0 if none was answered"; "0 if there are none of these" */
    private static void meanWaitAndShareOfNone() {
        MoonComplaintWindow window = Check.loaded(CLEAR + "clerk 1 99;complaint 1 tide 5;complaint 2 glare 2;");
        Check.due("meanWait of none", window.meanWait(), 0.0);
        Check.due("answeredShare of none", window.answeredShare(), 0.0);
        Check.due("comfort of none", window.comfort(), 0);
        window.endNights(1);
        Check.due("meanWait of one that did not wait", window.meanWait(), 0.0);
        Check.due("answeredShare of one", window.answeredShare(), 1.0);
        Check.due("comfort of one", window.comfort(), 5);
        window.undo();
        window.giveUp(0);
        window.giveUp(1);
        Check.due("meanWait of given up ones", window.meanWait(), 0.0);
        Check.due("answeredShare of given up ones", window.answeredShare(), 0.0);
        window.undo();
        window.undo();
        window.endNights(1);
        window.fileComplaint(3, 2, 1);
        window.endNights(14);
        Check.due("night", window.night(), 15);
        // TIDE was answered in night 0 and GLARE, the angrier one, in night 14.
        Check.due("answeredCount", window.answeredCount(), 2);
        Check.due("meanWait of two", window.meanWait(), 7.0);
        MoonComplaintWindow bare = Check.loaded(CLEAR);
        Check.due("meanWait without complaints", bare.meanWait(), 0.0);
        Check.due("answeredShare without complaints", bare.answeredShare(), 0.0);
        MoonComplaintWindow dismissed = inNight(DARK + "clerk 1 99;complaint 1 glare 1;", 15);
        Check.due("meanWait of a dismissed one", dismissed.meanWait(), 0.0);
        Check.due("answeredShare of a dismissed one", dismissed.answeredShare(), 0.0);
        Check.due("comfort of a dismissed one", dismissed.comfort(), 0);
        Check.due("answeredBy of a dismissed one", dismissed.answeredBy(0), 0);
        Check.due("oilUsed of a dismissed one", dismissed.oilUsed(), 6);
    }

    /** "the number of complaints that would be answered if this night ended now" */
    private static void answersTonightAtItsBounds() {
        Check.due("no clerks", Check.loaded(CLEAR + "complaint 1 tide 1;").answersTonight(), 0);
        Check.due("no complaints", Check.loaded(CLEAR + "clerk 9 99;").answersTonight(), 0);
        Check.due("oil of 5", Check.loaded(CLEAR + "clerk 9 5;complaint 1 tide 1;").answersTonight(), 0);
        Check.due("oil of 6", Check.loaded(CLEAR + "clerk 9 6;complaint 1 tide 1;").answersTonight(), 1);
        Check.due("a dismissal", inNight(DARK + "clerk 9 99;complaint 1 glare 1;", 14).answersTonight(), 0);
        StringBuilder text = new StringBuilder("moon 14 0 7;clouds 9;");
        for (int i = 0; i < 5; i++) {
            text.append("clerk 9 24;");
        }
        for (int i = 0; i < 24; i++) {
            text.append("complaint ").append(i).append("tide 1;");
        }
        Check.due("four of each of five clerks", Check.loaded(text.toString()).answersTonight(), 20);
    }

    /** "the number of nights that must end until it is answered, dismissed or given up" */
    private static void nightsToCloseAtItsBounds() {
        MoonComplaintWindow tonight = Check.loaded(CLEAR + "clerk 1 6;complaint 1 tide 1;complaint 2 tide 2;");
        Check.due("answered tonight", tonight.nightsToClose(1), 1);
        Check.due("willBeAnswered", tonight.willBeAnswered(1), true);
        Check.due("no oil for the other", tonight.nightsToClose(0), 56);
        Check.due("willBeAnswered", tonight.willBeAnswered(0), false);
        String noClerks = DARK + "complaint 1 glare 1;";
        Check.due("given up at the age of 56", Check.loaded(noClerks).nightsToClose(0), 56);
        Check.due("at the age of 1", inNight(noClerks, 1).nightsToClose(0), 55);
        Check.due("at the age of 55", inNight(noClerks, 55).nightsToClose(0), 1);
        Refused.due("at the age of 56", WRONG_STATE, () -> inNight(noClerks, 56), w -> w.nightsToClose(0));
        Refused.due("at the age of 56", WRONG_STATE, () -> inNight(noClerks, 56), w -> w.willBeAnswered(0) ? 1 : 0);
        String clerk = DARK + "clerk 1 6;complaint 1 glare 1;";
        Check.due("dismissed at the age of 14", Check.loaded(clerk).nightsToClose(0), 15);
        Check.due("at the age of 13", inNight(clerk, 13).nightsToClose(0), 2);
        Check.due("at the age of 14", inNight(clerk, 14).nightsToClose(0), 1);
        Check.due("a dismissal is no answer", inNight(clerk, 14).willBeAnswered(0), false);
    }

    /** "if nothing else happens (also beyond the night 999)" */
    private static void predictionsBeyond999() {
        MoonComplaintWindow window = inNight("moon 14 0 7;clouds 0;clerk 1 99;", 999);
        window.fileComplaint(1, 0, 1);
        window.fileComplaint(1, 2, 1);
        // TIDE comes in night 1008, ten nights must end; GLARE in night 1022, but in night 1013 it is dismissed.
        Check.due("nightsToClose of TIDE", window.nightsToClose(1), 10);
        Check.due("willBeAnswered of TIDE", window.willBeAnswered(1), true);
        Check.due("nightsToClose of GLARE", window.nightsToClose(0), 15);
        Check.due("willBeAnswered of GLARE", window.willBeAnswered(0), false);
        Check.due("answersTonight", window.answersTonight(), 0);
        Check.due("night", window.night(), 999);
        MoonComplaintWindow noClerks = inNight(DARK, 999);
        noClerks.fileComplaint(1, 0, 1);
        Check.due("given up in night 1055", noClerks.nightsToClose(0), 56);
        Check.due("willBeAnswered", noClerks.willBeAnswered(0), false);
    }
}
