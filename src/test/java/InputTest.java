import java.util.NoSuchElementException;

/** Promises 2 to 6, and the text format. */
public final class InputTest {
    private static final String HEAD = "moon 8 2 6;clouds 0;";

    public static void main(String[] args) {
        append();
        shorten();
        load();
        loadReplacesEverythingElse();
        loadThatFails();
        blanksAndTokens();
        errorsOfTheGrammar();
        errorsOfRanges();
        errorsOfCounts();
        errorsOfSorts();
        Check.end("InputTest");
    }

    private static void append() {
        MoonComplaintWindow window = new MoonComplaintWindow();
        // "moon", " 14 ", "13 7", "clou" is not yet a word: ";clo", "uds9"; the most significant byte stands first.
        Check.due("append", window.append(0x6d6f6f6e, 0x20313420, 0x31332037, 0x3b636c6f, 0x75647339), 20);
        Check.due("append", window.append(0x3b000000, 0, 0, 0, 0), 40);
        Check.due("shorten", window.shorten(21), 21);
        Check.due("load", window.load(), 0);
        Check.due("state", Check.state(window), "night 0 limits 14 13 7 clouds 9 used 0");
        for (int length = 20; length <= 600; length += 20) {
            Check.due("append", window.append(-1, Integer.MIN_VALUE, 0, 1, Integer.MAX_VALUE), length);
        }
        Check.dueThrow("append to 620", IllegalStateException.class, () -> window.append(0, 0, 0, 0, 0));
        Check.due("shorten", window.shorten(600), 600);
        Check.due("shorten", window.shorten(581), 581);
        Check.dueThrow("append to 601", IllegalStateException.class, () -> window.append(0, 0, 0, 0, 0));
        Check.due("shorten", window.shorten(580), 580);
        Check.due("append", window.append(0, 0, 0, 0, 0), 600);
    }

    private static void shorten() {
        MoonComplaintWindow window = new MoonComplaintWindow();
        Check.dueThrow("shorten(-1)", IllegalArgumentException.class, () -> window.shorten(-1));
        Check.dueThrow("shorten(1)", IllegalArgumentException.class, () -> window.shorten(1));
        Check.due("shorten(0)", window.shorten(0), 0);
        window.append(0, 0, 0, 0, 0);
        Check.dueThrow("shorten(21)", IllegalArgumentException.class, () -> window.shorten(21));
        Check.dueThrow("shorten(MIN)", IllegalArgumentException.class, () -> window.shorten(Integer.MIN_VALUE));
        Check.dueThrow("shorten(MAX)", IllegalArgumentException.class, () -> window.shorten(Integer.MAX_VALUE));
        Check.due("shorten(20)", window.shorten(20), 20);
        Check.due("shorten(7)", window.shorten(7), 7);
        Check.dueThrow("shorten(8)", IllegalArgumentException.class, () -> window.shorten(8));
        Check.due("append", window.append(0, 0, 0, 0, 0), 27);
        Check.due("shorten(0)", window.shorten(0), 0);
        Check.put(window, "moon 1 0 ");
        Check.put(window, "0;clouds");
        Check.put(window, " 1;");
        Check.due("load of pieces", window.load(), 0);
        Check.due("state", Check.state(window), "night 0 limits 1 0 0 clouds 1 used 0");
    }

    private static void load() {
        MoonComplaintWindow window = new MoonComplaintWindow();
        Check.put(window, "moon 14 13 7;clouds 0 1 2 3 4 5 6 7 8 9;clerk 1 0;clerk 9 99;"
                + "complaint 0 glare 1;complaint 99 gloom 9;complaint 99 tide 2;complaint 99 face 3;complaint 99 glare 4;");
        Check.due("load", window.load(), 5);
        Check.due("state", Check.state(window),
                "night 0 limits 14 13 7 clouds 0 1 2 3 4 5 6 7 8 9 clerk 1 0 0 clerk 9 99 0 used 0"
                + " complaint 0 0 1 0 w complaint 99 1 9 0 w complaint 99 2 2 0 w complaint 99 3 3 0 w complaint 99 0 4 0 w");
        Check.dueThrow("the buffer is empty", IllegalArgumentException.class, () -> window.shorten(1));
        StringBuilder most = new StringBuilder(HEAD);
        for (int i = 0; i < 5; i++) {
            most.append("clerk 1 ").append(i).append(';');
        }
        for (int i = 0; i < 24; i++) {
            most.append("complaint ").append(i).append("tide 1;");
        }
        Check.put(window, most.toString());
        Check.due("load of the most", window.load(), 24);
        Check.due("clerks", window.clerkCount(), 5);
        Check.due("last person", window.personOf(23), 23);
        Check.due("last oil", window.oilOf(4), 4);
        Check.put(window, HEAD + "complaint 1 glare 2;");
        Check.due("load of less", window.load(), 1);
        Check.due("clerks", window.clerkCount(), 0);
        Check.due("nothing is left of the longer text", window.complaintsOf(1), 1);
        Check.due("angriest", window.angriest(), 0);
        Check.due("waitingCount", window.waitingCount(), 1);
        Check.due("fileComplaint", window.fileComplaint(2, 2, 1), 1);
    }

    private static void loadReplacesEverythingElse() {
        MoonComplaintWindow window = new MoonComplaintWindow();
        window.saveSnapshot(0);
        window.saveSnapshot(1);
        window.endNights(20);
        window.writeComplaints(4);
        Check.put(window, HEAD);
        Check.due("load", window.load(), 0);
        Check.due("state", Check.state(window), "night 0 limits 8 2 6 clouds 0 used 0");
        Check.due("answered", window.answeredCount(), 0);
        Check.due("dismissed", window.dismissedCount(), 0);
        Check.due("given up", window.givenUpCount(), 0);
        Check.due("waiting", window.waitingCount(), 0);
        Check.due("comfort", window.comfort(), 0);
        Check.due("meanWait", window.meanWait(), 0.0);
        Check.due("answeredShare", window.answeredShare(), 0.0);
        Check.dueThrow("undo", IllegalStateException.class, () -> window.undo());
        Check.dueThrow("slot 0", NoSuchElementException.class, () -> window.restoreSnapshot(0));
        Check.dueThrow("slot 1", NoSuchElementException.class, () -> window.restoreSnapshot(1));
        Check.due("the written text stays", window.writtenByte(0), '0');
        Check.due("its end", window.writtenByte(7), '\n');
    }

    private static void loadThatFails() {
        MoonComplaintWindow window = new MoonComplaintWindow();
        window.saveSnapshot(1);
        window.endNights(3);
        window.writeComplaints(30);
        String before = Check.state(window);
        Check.put(window, HEAD + "complaint 5 glare 0;");
        Check.dueThrow("load", IllegalArgumentException.class, () -> window.load());
        Check.due("hasError", window.hasError(), true);
        Check.due("errorOffset", window.errorOffset(), 38);
        Check.due("errorOffset again", window.errorOffset(), 38);
        Check.due("nothing is changed", Check.state(window), before);
        Check.due("the written text stays", window.writtenByte(0), '3');
        Check.dueThrow("the buffer is empty", IllegalArgumentException.class, () -> window.shorten(1));
        Check.dueThrow("load of nothing", IllegalArgumentException.class, () -> window.load());
        Check.due("errorOffset of nothing", window.errorOffset(), 0);
        Check.due("restore", window.restoreSnapshot(1), 0);
        Check.due("undo", window.undo(), 1);
        Check.due("undo", window.undo(), 0);
        Check.due("undo keeps the error", window.hasError(), true);
        Check.put(window, HEAD);
        Check.due("load", window.load(), 0);
        Check.due("no error any more", window.hasError(), false);
        Check.dueThrow("errorOffset", NoSuchElementException.class, () -> window.errorOffset());
    }

    private static void good(String text, String state) {
        Check.due("state from " + text, Check.state(Check.loaded(text)), state);
    }

    private static void bad(String text, int offset) {
        MoonComplaintWindow window = new MoonComplaintWindow();
        Check.put(window, text);
        Check.dueThrow("load of " + text, IllegalArgumentException.class, () -> window.load());
        Check.due("hasError of " + text, window.hasError(), true);
        Check.due("errorOffset of " + text, window.hasError() ? window.errorOffset() : -1, offset);
    }

    private static void blanksAndTokens() {
        String state = "night 0 limits 8 2 6 clouds 0 5 clerk 1 7 0 used 0 complaint 3 2 1 0 w";
        good("moon 8 2 6;clouds 0 5;clerk 1 7;complaint 3 tide 1;", state);
        good("moon8 2 6;clouds0 5;clerk1 7;complaint3tide1;", state);
        good(" \n moon\n08  02\n\n06 ; \nclouds 00 05 ; clerk 01 07\n;complaint 03 tide 01 ; \n ", state);
        bad("moon\t8 2 6;clouds 0;", 4);
        bad("moon\r8 2 6;clouds 0;", 4);
        bad("\0" + HEAD, 0);
        bad(HEAD + "\0", 20);
        bad(HEAD + "\u00e9", 20);
        bad(HEAD + "\u00ff", 20);
        bad("moon 8,2 6;clouds 0;", 6);
        bad("moon -8 2 6;clouds 0;", 5);
        bad("moon 008 2 6;clouds 0;", 5);
        bad("moon 8 2 6;clouds 000;", 18);
        bad("Moon 8 2 6;clouds 0;", 0);
        bad("mooN 8 2 6;clouds 0;", 0);
        bad("moonX8 2 6;clouds 0;", 4);
        bad("moon` 8 2 6;clouds 0;", 4);
        bad("moon{ 8 2 6;clouds 0;", 4);
        bad("moon 8/2 6;clouds 0;", 6);
        bad("moon 8:2 6;clouds 0;", 6);
    }

    private static void errorsOfTheGrammar() {
        bad("", 0);
        bad("  \n", 3);
        bad(" ".repeat(600), 600);
        bad(" ".repeat(596) + "moon", 600);
        bad(" ".repeat(593) + "moon 14", 600);
        bad(" ".repeat(592) + "moon 14;", 599);
        bad("m".repeat(600), 0);
        bad("1".repeat(600), 0);
        good(" ".repeat(580) + HEAD, "night 0 limits 8 2 6 clouds 0 used 0");
        good(HEAD + "\n".repeat(580), "night 0 limits 8 2 6 clouds 0 used 0");
        bad("moo 8 2 6;", 0);
        bad("moons 8 2 6;", 0);
        bad("noon 8 2 6;", 0);
        bad("moonz 8 2 6;", 0);
        bad("moona 8 2 6;", 0);
        bad("amoon 8 2 6;", 0);
        bad("zmoon 8 2 6;", 0);
        bad("moonclouds", 0);
        bad("8", 0);
        bad(";", 0);
        bad("moon", 4);
        bad("moon ", 5);
        bad("moon 8", 6);
        bad("moon 8 2", 8);
        bad("moon 8 2 6", 10);
        bad("moon 8 2 6;", 11);
        bad("moon 8 2;", 8);
        bad("moon 8 2 6 1;", 11);
        bad("moon 8 2 six;", 9);
        bad("moon 8 2 6 clouds 0;", 11);
        bad("moon 8 2 6;;clouds 0;", 11);
        bad("moon 8 2 6;cloud 0;", 11);
        bad("moon 8 2 6;clerk 1 1;", 11);
        bad("moon 8 2 6;clouds;", 17);
        bad("moon 8 2 6;clouds", 17);
        bad("moon 8 2 6;clouds 1 2", 21);
        bad("moon 8 2 6;clouds 1 clerk 1 1;", 20);
        bad(HEAD + ";", 20);
        bad(HEAD + "5", 20);
        bad(HEAD + "moon 8 2 6;", 20);
        bad(HEAD + "clouds 1;", 20);
        bad(HEAD + "clerks 1 1;", 20);
        bad(HEAD + "clerk", 25);
        bad(HEAD + "clerk;", 25);
        bad(HEAD + "clerk 1;", 27);
        bad(HEAD + "clerk 1 1 1;", 30);
        bad(HEAD + "clerk 1 1", 29);
        bad(HEAD + "complaint", 29);
        bad(HEAD + "complaint glare 1;", 30);
        bad(HEAD + "complaint 1 1;", 32);
        bad(HEAD + "complaint 1 glare;", 37);
        bad(HEAD + "complaint 1 glare 1", 39);
        bad(HEAD + "complaint 1 glare 1  ", 41);
        bad(HEAD + "complaint 1 glare 1 1;", 40);
        bad(HEAD + "complaint 1 tide 1;clerk 1 1;", 39);
        bad(HEAD + "complaint 1 tide 1;complain 1 tide 1;", 39);
    }

    private static void errorsOfRanges() {
        bad("moon 0 2 6;clouds 0;", 5);
        bad("moon 15 2 6;clouds 0;", 5);
        bad("moon 14 14 6;clouds 0;", 8);
        bad("moon 14 13 8;clouds 0;", 11);
        bad("moon 8 2 6;clouds 10;", 18);
        bad("moon 8 2 6;clouds 0 1 10;", 22);
        bad(HEAD + "clerk 0 1;", 26);
        bad(HEAD + "clerk 10 1;", 26);
        bad(HEAD + "clerk 1 100;", 28);
        bad(HEAD + "complaint 100 tide 1;", 30);
        bad(HEAD + "complaint 1 tide 0;", 37);
        bad(HEAD + "complaint 1 tide 10;", 37);
        good("moon 1 0 0;clouds 0;clerk 1 0;clerk 9 99;", "night 0 limits 1 0 0 clouds 0 clerk 1 0 0 clerk 9 99 0 used 0");
    }

    private static void errorsOfCounts() {
        bad("moon 8 2 6;clouds 0 1 2 3 4 5 6 7 8 9 0;", 38);
        bad("moon 8 2 6;clouds 0 1 2 3 4 5 6 7 8 9 99;", 38);
        bad("moon 8 2 6;clouds 0 1 2 3 4 5 6 7 8 9", 37);
        StringBuilder clerks = new StringBuilder(HEAD);
        for (int i = 0; i < 5; i++) {
            clerks.append("clerk 1 1;");
        }
        bad(clerks + "clerk 1 1;", 70);
        bad(clerks + "clerk", 70);
        good(clerks + "complaint 1 tide 1;", "night 0 limits 8 2 6 clouds 0 clerk 1 1 0 clerk 1 1 0 clerk 1 1 0"
                + " clerk 1 1 0 clerk 1 1 0 used 0 complaint 1 2 1 0 w");
        StringBuilder complaints = new StringBuilder(HEAD);
        for (int i = 10; i < 34; i++) {
            complaints.append("complaint ").append(i).append(" tide 1;");
        }
        bad(complaints + "complaint 50 tide 1;", 20 + 24 * 20);
        bad(complaints + "complaint", 20 + 24 * 20);
        bad(complaints + "clerk 1 1;", 20 + 24 * 20);
    }

    private static void errorsOfSorts() {
        bad(HEAD + "complaint 1 glares 1;", 32);
        bad(HEAD + "complaint 1 glar 1;", 32);
        bad(HEAD + "complaint 1 moon 1;", 32);
        bad(HEAD + "complaint 1 Face 1;", 32);
        bad(HEAD + "complaint 1 tide 1;complaint 1 tide 2;", 51);
        bad(HEAD + "complaint 1 tide 1;complaint 2 tide 2;complaint 01 tide 0;", 71);
        good(HEAD + "complaint 1 glare 1;complaint 1 gloom 2;complaint 1 face 3;complaint 2 face 4;",
                "night 0 limits 8 2 6 clouds 0 used 0 complaint 1 0 1 0 w complaint 1 1 2 0 w"
                + " complaint 1 3 3 0 w complaint 2 3 4 0 w");
    }
}
