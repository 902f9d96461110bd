import java.nio.charset.StandardCharsets;
import java.util.ArrayList;
import java.util.Arrays;
import java.util.List;
import java.util.NoSuchElementException;

/** The bounds under "5. Text format" and of promises 1 to 6: a method for each sentence that names one. */
public final class TextBoundsTest {
    private static final Class<IllegalArgumentException> WRONG_ARGUMENT = IllegalArgumentException.class;
    private static final Class<IllegalStateException> WRONG_STATE = IllegalStateException.class;
    private static final String HEAD = "moon 8 2 6;clouds 0;";
    private static final String HEAD_STATE = "night 0 limits 8 2 6 clouds 0 used 0";
    private static final List<String> TOKENS = List.of("moon", "8", "2", "6", ";", "clouds", "0", "3", ";",
            "clerk", "3", "20", ";", "complaint", "4", "glare", "5", ";");
    private static final String TOKENS_STATE = "night 0 limits 8 2 6 clouds 0 3 clerk 3 20 0 used 0 complaint 4 0 5 0 w";
    // Behind so many of the tokens the text may end.
    private static final List<Integer> ENDS = List.of(9, 13, 18);

    public static void main(String[] args) {
        atMost600Bytes();
        theMostSignificantByteFirst();
        shortenToNoMoreThanThereIs();
        anEmptyText();
        aTextOf600Bytes();
        aTextThatEndsTooEarly();
        aTextThatEndsWithinAWord();
        aMissingToken();
        aWrongToken();
        anInvalidTokenBefore();
        blanksBeforeBetweenAndAfter();
        bytesBehindTheText();
        bytesBetweenAWordAndANumber();
        bytesBetweenTwoNumbers();
        wordsAreMaximal();
        eachLetterCounts();
        numbersOfOneAndTwoDigits();
        numbersOfThreeDigits();
        limitsOutOfRange();
        cloudsOutOfRange();
        clerksOutOfRange();
        complaintsOutOfRange();
        an11thCloud();
        a6thClerk();
        a25thComplaint();
        clerksStandBeforeComplaints();
        aSortThatIsThereAlready();
        theFirstOfSeveralErrors();
        allAreFiledInNight0();
        loadReplacesAllButTheWrittenText();
        theLatestLoadCounts();
        Check.end("TextBoundsTest");
    }

    /** A window with a past of all kinds: changes, snapshots, an error and a written text; and this text in its buffer. */
    private static MoonComplaintWindow busy(String text) {
        MoonComplaintWindow window = Check.loaded("moon 9 1 6;clouds 1 4 0 7 2;clerk 4 40;clerk 1 60;"
                + "complaint 1 glare 1;complaint 1 gloom 2;complaint 1 tide 6;complaint 2 face 4;");
        window.endNights(3);
        window.saveSnapshot(0);
        window.giveUp(0);
        window.endNights(7);
        window.saveSnapshot(1);
        window.setCloud(1, 9);
        window.writeComplaints(1);
        Check.put(window, "moon;");
        Refused.answer(window, w -> w.load());
        Check.put(window, text);
        return window;
    }

    private static void bad(String text, int offset) {
        Refused.dueOfLoad("load of \"" + text + "\"", () -> busy(text), offset);
    }

    private static void good(String text, String state) {
        MoonComplaintWindow window = busy(text);
        String answer = Refused.answer(window, w -> w.load());
        Check.due("load of \"" + text + "\"", answer, String.valueOf(window.complaintCount()));
        Check.due("hasError", window.hasError(), false);
        Check.due("state from \"" + text + "\"", Check.state(window), state);
    }

    /** "Throws IllegalStateException if the length would exceed 600": "an input buffer of at most 600 bytes" */
    private static void atMost600Bytes() {
        MoonComplaintWindow window = new MoonComplaintWindow();
        for (int length = 20; length <= 600; length += 20) {
            Check.due("append", window.append(0x20202020, 0x20202020, 0x20202020, 0x20202020, 0x20202020), length);
        }
        Refused.due("append to 620", WRONG_STATE, () -> busy(" ".repeat(600)), w -> w.append(1, 2, 3, 4, 5));
        Refused.due("append to 601", WRONG_STATE, () -> busy(" ".repeat(581)), w -> w.append(1, 2, 3, 4, 5));
        Check.due("append to 600", busy(" ".repeat(580)).append(1, 2, 3, 4, 5), 600);
        Check.due("append to 599", busy(" ".repeat(579)).append(1, 2, 3, 4, 5), 599);
    }

    /** "the four bytes of each parameter, the most significant byte first" */
    private static void theMostSignificantByteFirst() {
        byte[] bytes = HEAD.getBytes(StandardCharsets.ISO_8859_1);
        for (int place = 0; place < 20; place++) {
            // A byte of 255 is an invalid token, so the error tells where it stands.
            byte[] spoilt = " ".repeat(20).getBytes(StandardCharsets.ISO_8859_1);
            spoilt[place] = (byte) 255;
            int[] words = Check.words(spoilt);
            MoonComplaintWindow window = new MoonComplaintWindow();
            window.append(words[0], words[1], words[2], words[3], words[4]);
            Check.dueThrow("load", WRONG_ARGUMENT, () -> window.load());
            Check.due("the byte " + place, window.errorOffset(), place);
        }
        for (int place = 0; place < 20; place++) {
            byte[] spoilt = " ".repeat(20).getBytes(StandardCharsets.ISO_8859_1);
            Arrays.fill(spoilt, place, 20, (byte) 255);
            int[] words = Check.words(spoilt);
            MoonComplaintWindow window = new MoonComplaintWindow();
            window.append(words[0], words[1], words[2], words[3], words[4]);
            Check.dueThrow("load", WRONG_ARGUMENT, () -> window.load());
            Check.due("the bytes from " + place + " on", window.errorOffset(), place);
        }
        int[] words = Check.words(bytes);
        MoonComplaintWindow window = new MoonComplaintWindow();
        Check.due("append", window.append(words[0], words[1], words[2], words[3], words[4]), 20);
        Check.due("load", window.load(), 0);
        Check.due("state", Check.state(window), HEAD_STATE);
    }

    /** "if length is negative or greater than the length of the buffer" */
    private static void shortenToNoMoreThanThereIs() {
        for (int length : new int[] {-1, 21, 600, 601, Integer.MIN_VALUE, Integer.MAX_VALUE}) {
            Refused.due("shorten to " + length, WRONG_ARGUMENT, () -> busy(HEAD), w -> w.shorten(length));
        }
        Refused.due("shorten of nothing to 1", WRONG_ARGUMENT, () -> busy(""), w -> w.shorten(1));
        Check.due("shorten of nothing to 0", busy("").shorten(0), 0);
        Check.due("shorten of 600 to 600", busy(" ".repeat(600)).shorten(600), 600);
        MoonComplaintWindow window = busy(HEAD + "#");
        Check.due("shorten of 21 to 21", window.shorten(21), 21);
        Check.due("shorten of 21 to 20", window.shorten(20), 20);
        Check.dueThrow("shorten of 20 to 21", WRONG_ARGUMENT, () -> window.shorten(21));
        Check.due("the first bytes are left", window.load(), 0);
        MoonComplaintWindow none = busy(HEAD);
        Check.due("shorten to 0", none.shorten(0), 0);
        Check.due("append behind it", none.append(0, 0, 0, 0, 0), 20);
    }

    private static void anEmptyText() {
        bad("", 0);
        bad(" ", 1);
        bad("\n", 1);
        bad(" \n \n", 4);
        MoonComplaintWindow window = new MoonComplaintWindow();
        Check.dueThrow("load of a new object", WRONG_ARGUMENT, () -> window.load());
        Check.due("errorOffset", window.errorOffset(), 0);
        Check.due("state", Check.state(window), Check.state(new MoonComplaintWindow()));
    }

    private static void aTextOf600Bytes() {
        String blanks = " ".repeat(580);
        good(HEAD + blanks, HEAD_STATE);
        good(blanks + HEAD, HEAD_STATE);
        good(HEAD + "\n".repeat(580), HEAD_STATE);
        bad(" ".repeat(600), 600);
        bad(" ".repeat(599) + "#", 599);
        bad(" ".repeat(599) + "m", 599);
        bad(" ".repeat(596) + "moon", 600);
        bad(" ".repeat(590) + "moon 8 2 6", 600);
        bad(" ".repeat(589) + "moon 8 2 6;", 600);
        bad(" ".repeat(589) + "moon 8 2 10", 598);
        bad(blanks.substring(1) + HEAD + "#", 599);
        bad(blanks.substring(1) + HEAD + "5", 599);
        bad(blanks.substring(1) + HEAD + ";", 599);
        bad("m".repeat(600), 0);
        bad("0".repeat(600), 0);
        bad(";".repeat(600), 0);
        bad("#".repeat(600), 0);
        fullOffice();
    }

    /** The most of everything in 600 bytes, with the last complaint's semicolon in the last one. */
    private static void fullOffice() {
        StringBuilder text = new StringBuilder("moon 8 2 6;clouds 0 1 2 3 4 5 6 7 8 9;");
        for (int i = 0; i < 5; i++) {
            text.append("clerk 9 99;");
        }
        for (int i = 10; i < 34; i++) {
            text.append("complaint ").append(i).append("face 9;");
        }
        String semicolon = text.substring(text.length() - 1);
        text.setLength(text.length() - 1);
        String full = text + " ".repeat(599 - text.length()) + semicolon;
        Check.due("length", full.length(), 600);
        MoonComplaintWindow window = busy(full);
        Check.due("load of all", window.load(), 24);
        Check.due("clerkCount", window.clerkCount(), 5);
        Check.due("cloudCount", window.cloudCount(), 10);
        Check.due("personOf the last", window.personOf(23), 33);
        Check.due("angerOf the last", window.angerOf(23), 9);
        bad(full.substring(0, 599), 599);
        bad(full.substring(0, 599) + " ", 600);
    }

    private static String joined(List<String> tokens) {
        return String.join(" ", tokens);
    }

    /** The offset of a token in the joined text, or the length of the text for the end. */
    private static int offsetOf(List<String> tokens, int place) {
        return joined(tokens.subList(0, place)).length() + (place > 0 && place < tokens.size() ? 1 : 0);
    }

    /** "It is the length of the text if the text ends too early.": behind each token. */
    private static void aTextThatEndsTooEarly() {
        good(joined(TOKENS), TOKENS_STATE);
        for (int count = 0; count <= TOKENS.size(); count++) {
            String text = joined(TOKENS.subList(0, count));
            if (ENDS.contains(count)) {
                Check.due("load of \"" + text + "\"", busy(text).load(), count == TOKENS.size() ? 1 : 0);
                Check.due("load with blanks", busy(text + " \n").load(), count == TOKENS.size() ? 1 : 0);
            } else {
                bad(text, text.length());
                bad(text + " ", text.length() + 1);
                bad(text + "\n  ", text.length() + 3);
            }
        }
    }

    /** The beginning of a word is another word, which is not allowed at its place. */
    private static void aTextThatEndsWithinAWord() {
        for (int place = 0; place < TOKENS.size(); place++) {
            String token = TOKENS.get(place);
            for (int length = 1; length < token.length() && Character.isLetter(token.charAt(0)); length++) {
                List<String> tokens = new ArrayList<>(TOKENS.subList(0, place));
                tokens.add(token.substring(0, length));
                bad(joined(tokens), offsetOf(tokens, place));
            }
        }
    }

    /** "the offset of the first byte of the first token that is not allowed at its place": behind one that is missing. */
    private static void aMissingToken() {
        for (int place = 0; place < TOKENS.size(); place++) {
            List<String> tokens = new ArrayList<>(TOKENS);
            tokens.remove(place);
            if (place >= 1 && place <= 3) {
                // The next number stands for the missing one, so that the semicolon comes too early.
                bad(joined(tokens), offsetOf(tokens, 3));
            } else if (place != 6 && place != 7) {
                bad(joined(tokens), offsetOf(tokens, place));
            }
        }
        good("moon 8 2 6;clouds 3;", "night 0 limits 8 2 6 clouds 3 used 0");
        bad("moon 8 2 6;clouds;", 17);
    }

    private static void aWrongToken() {
        for (int place = 0; place < TOKENS.size(); place++) {
            String due = TOKENS.get(place);
            for (String wrong : List.of("x", "moo", "moon", "clouds", "clerk", "complaint", "glare", "100", "#", ";", "7")) {
                boolean allowed = wrong.equals(due) || wrong.equals("7") && (due.matches("[0-9]+") || place == 8)
                        || wrong.equals(";") && place == 7 || wrong.equals("complaint") && place == 9
                        || wrong.equals("clerk") && place == 13;
                if (!allowed) {
                    List<String> tokens = new ArrayList<>(TOKENS);
                    tokens.set(place, wrong);
                    bad(joined(tokens), offsetOf(tokens, place));
                }
            }
        }
    }

    private static void anInvalidTokenBefore() {
        for (int place = 0; place <= TOKENS.size(); place++) {
            for (String invalid : List.of("#", "M", "000", "\t", "\u00ff", "\0")) {
                List<String> tokens = new ArrayList<>(TOKENS);
                tokens.add(place, invalid);
                bad(joined(tokens), offsetOf(tokens, place));
            }
        }
    }

    /** "Spaces (byte 32) and line feeds (byte 10) may stand before, between and after tokens." */
    private static void blanksBeforeBetweenAndAfter() {
        good("moon8 2 6;clouds0 3;clerk3 20;complaint4glare5;", TOKENS_STATE);
        for (String blanks : List.of(" ", "\n", "  ", "\n\n", " \n \n ")) {
            for (int place = 0; place <= TOKENS.size(); place++) {
                List<String> tokens = new ArrayList<>(TOKENS);
                tokens.add(place, blanks);
                good(joined(tokens), TOKENS_STATE);
            }
        }
        good(String.join("\n", TOKENS), TOKENS_STATE);
        // Within tokens they part them.
        bad("mo on 8 2 6;clouds 0;", 0);
        bad("moon 8 2 6;clo\nuds 0;", 11);
        good("moon 1 1 1;clouds 0;", "night 0 limits 1 1 1 clouds 0 used 0");
        bad("moon 1 11;clouds 0;", 9);
    }

    /** "All other bytes .. are invalid tokens.": each byte behind a whole text. */
    private static void bytesBehindTheText() {
        for (int value = 0; value < 256; value++) {
            String text = HEAD + (char) value;
            if (value == ' ' || value == '\n') {
                good(text, HEAD_STATE);
            } else {
                bad(text, 20);
            }
        }
    }

    /** Each byte between a word and a number: letters make another word, digits another number. */
    private static void bytesBetweenAWordAndANumber() {
        for (int value = 0; value < 256; value++) {
            String text = "moon" + (char) value + "8 2 6;clouds 0;";
            if (value == ' ' || value == '\n' || value == '0') {
                good(text, HEAD_STATE);
            } else {
                bad(text, value >= 'a' && value <= 'z' ? 0 : 4);
            }
        }
    }

    /** Each byte between two numbers: a digit makes a number of three digits. */
    private static void bytesBetweenTwoNumbers() {
        for (int value = 0; value < 256; value++) {
            String text = "moon 8" + (char) value + "2 6;clouds 0;";
            if (value == ' ' || value == '\n') {
                good(text, HEAD_STATE);
            } else {
                bad(text, value >= '0' && value <= '9' ? 5 : 6);
            }
        }
    }

    /** "A maximal sequence of letters a to z is a word." */
    private static void wordsAreMaximal() {
        bad("moonclouds", 0);
        bad("moona 8 2 6;clouds 0;", 0);
        bad("zmoon 8 2 6;clouds 0;", 0);
        bad("MOON 8 2 6;clouds 0;", 0);
        bad("moon 8 2 6;cloud 0;", 11);
        bad("moon 8 2 6;cloudss 0;", 11);
        bad(HEAD + "clerks 1 1;", 20);
        bad(HEAD + "clerkcomplaint 1 1;", 20);
        bad(HEAD + "complaints 1 tide 1;", 20);
        bad(HEAD + "complaint 1 tides 1;", 32);
        bad(HEAD + "complaint 1 tid 1;", 32);
        bad(HEAD + "complaint 1 glaregloom 1;", 32);
        good(HEAD + "complaint 1face 1;", HEAD_STATE + " complaint 1 3 1 0 w");
        good(HEAD + "complaint 1gloom 1;", HEAD_STATE + " complaint 1 1 1 0 w");
    }

    /** A word with one other letter is another word: each letter of each word. */
    private static void eachLetterCounts() {
        eachLetterOf("", "moon", " 8 2 6;clouds 0;");
        eachLetterOf("moon 8 2 6;", "clouds", " 0;");
        eachLetterOf(HEAD, "clerk", " 3 20;");
        eachLetterOf(HEAD, "complaint", " 4 glare 5;");
        for (String sort : List.of("glare", "gloom", "tide", "face")) {
            eachLetterOf(HEAD + "complaint 4 ", sort, " 5;");
        }
    }

    private static void eachLetterOf(String before, String word, String after) {
        String answer = Refused.answer(busy(before + word + after), w -> w.load());
        Check.due("load with \"" + word + "\"", answer, (before + word).contains("complaint") ? "1" : "0");
        for (int i = 0; i < word.length(); i++) {
            char other = word.charAt(i) == 'z' ? 'a' : (char) (word.charAt(i) + 1);
            bad(before + word.substring(0, i) + other + word.substring(i + 1) + after, before.length());
        }
    }

    /** "A maximal sequence of digits is a number of 1 to 2 digits." */
    private static void numbersOfOneAndTwoDigits() {
        good("moon 08 02 06;clouds 00;", HEAD_STATE);
        good("moon 8 02 6;clouds 0 00 09;clerk 09 09;complaint 00 glare 09;",
                "night 0 limits 8 2 6 clouds 0 0 9 clerk 9 9 0 used 0 complaint 0 0 9 0 w");
        good("moon 14 13 7;clouds 0;clerk 1 10;clerk 1 99;complaint 10 glare 1;complaint 99 glare 1;",
                "night 0 limits 14 13 7 clouds 0 clerk 1 10 0 clerk 1 99 0 used 0"
                + " complaint 10 0 1 0 w complaint 99 0 1 0 w");
    }

    /** "longer sequences of digits, are invalid tokens": at the place of each number, whatever their value. */
    private static void numbersOfThreeDigits() {
        for (int place = 0; place < TOKENS.size(); place++) {
            if (Character.isDigit(TOKENS.get(place).charAt(0))) {
                for (String digits : List.of("000", "001", "004", "008", "010", "099", "100", "999", "0000", "4294967297")) {
                    List<String> tokens = new ArrayList<>(TOKENS);
                    tokens.set(place, digits);
                    bad(joined(tokens), offsetOf(tokens, place));
                }
            }
        }
        bad("moon 008 2 6;clouds 0;", 5);
    }

    /** "The numbers after "moon" are the glare limit, the gloom limit and the tide limit.": a number out of its range. */
    private static void limitsOutOfRange() {
        good("moon 1 0 0;clouds 0;", "night 0 limits 1 0 0 clouds 0 used 0");
        good("moon 14 13 7;clouds 0;", "night 0 limits 14 13 7 clouds 0 used 0");
        bad("moon 0 0 0;clouds 0;", 5);
        bad("moon 00 0 0;clouds 0;", 5);
        bad("moon 15 0 0;clouds 0;", 5);
        bad("moon 99 0 0;clouds 0;", 5);
        bad("moon 1 14 0;clouds 0;", 7);
        bad("moon 14 14 0;clouds 0;", 8);
        bad("moon 1 0 8;clouds 0;", 9);
        bad("moon 14 13 08;clouds 0;", 11);
        bad("moon 14 13 99;clouds 0;", 11);
    }

    private static void cloudsOutOfRange() {
        good("moon 8 2 6;clouds 0 9 09 00;", "night 0 limits 8 2 6 clouds 0 9 9 0 used 0");
        bad("moon 8 2 6;clouds 10;", 18);
        bad("moon 8 2 6;clouds 99;", 18);
        bad("moon 8 2 6;clouds 0 10;", 20);
        bad("moon 8 2 6;clouds 0 1 2 3 4 5 6 7 8 10;", 36);
    }

    /** "After "clerk" the skill and the oil are given." */
    private static void clerksOutOfRange() {
        good(HEAD + "clerk 1 0;clerk 9 99;", "night 0 limits 8 2 6 clouds 0 clerk 1 0 0 clerk 9 99 0 used 0");
        bad(HEAD + "clerk 0 0;", 26);
        bad(HEAD + "clerk 00 0;", 26);
        bad(HEAD + "clerk 10 0;", 26);
        bad(HEAD + "clerk 99 0;", 26);
        bad(HEAD + "clerk 1 100;", 28);
        bad(HEAD + "clerk 1 0;clerk 10 0;", 36);
    }

    /** "After "complaint" the person is given, and after the sort the anger." */
    private static void complaintsOutOfRange() {
        good(HEAD + "complaint 0 face 1;complaint 99 face 9;", HEAD_STATE + " complaint 0 3 1 0 w complaint 99 3 9 0 w");
        bad(HEAD + "complaint 100 face 1;", 30);
        bad(HEAD + "complaint 0 face 0;", 37);
        bad(HEAD + "complaint 0 face 00;", 37);
        bad(HEAD + "complaint 0 face 10;", 37);
        bad(HEAD + "complaint 0 face 99;", 37);
    }

    /** "if it is an 11th number after "clouds"" */
    private static void an11thCloud() {
        String ten = "moon 8 2 6;clouds 0 1 2 3 4 5 6 7 8 9";
        good(ten + ";", "night 0 limits 8 2 6 clouds 0 1 2 3 4 5 6 7 8 9 used 0");
        for (String eleventh : List.of("0", "9", "10", "00", "100", "x", "clerk", "#")) {
            bad(ten + " " + eleventh + ";", 38);
        }
        bad(ten, 37);
        bad(ten + " ", 38);
        bad(ten + " 0", 38);
    }

    /** "the word "clerk" of a 6th clerk" */
    private static void a6thClerk() {
        String five = HEAD + "clerk 1 1;".repeat(5);
        String state = "night 0 limits 8 2 6 clouds 0" + " clerk 1 1 0".repeat(5) + " used 0";
        good(five, state);
        good(five + "complaint 1 tide 1;", state + " complaint 1 2 1 0 w");
        bad(five + "clerk 1 1;", 70);
        bad(five + "clerk", 70);
        bad(five + "\n clerk 10 100;", 72);
        bad(five + "clerk 1 1;complaint 1 tide 1;", 70);
        bad(five + "clerks", 70);
    }

    /** "or "complaint" of a 25th complaint" */
    private static void a25thComplaint() {
        StringBuilder text = new StringBuilder(HEAD);
        StringBuilder state = new StringBuilder(HEAD_STATE);
        for (int i = 0; i < 24; i++) {
            String sort = List.of("glare", "gloom", "tide ", "face ").get(i % 4);
            text.append("complaint ").append(10 + i / 4).append(sort).append("1;");
            state.append(" complaint ").append(10 + i / 4).append(' ').append(i % 4).append(" 1 0 w");
        }
        Check.due("length of 24", text.length(), 20 + 24 * 19);
        good(text.toString(), state.toString());
        bad(text + "complaint 50 tide 1;", 476);
        bad(text + "complaint", 476);
        bad(text + "complaint 10 glare 0;", 476);
        bad(text + "\ncomplaint 100;", 477);
        bad(text + "clerk 1 1;", 476);
        bad(text + "complaints", 476);
    }

    private static void clerksStandBeforeComplaints() {
        bad(HEAD + "complaint 1 tide 1;clerk 1 1;", 39);
        bad("moon 8 2 6;clerk 1 1;clouds 0;", 11);
        bad("clouds 0;moon 8 2 6;", 0);
        bad(HEAD + "clouds 0;", 20);
        bad(HEAD + HEAD, 20);
        bad(HEAD + ";", 20);
    }

    /** "or if it is the sort of a complaint of which the person has a waiting one already" */
    private static void aSortThatIsThereAlready() {
        for (String sort : List.of("glare", "gloom", "tide", "face")) {
            String one = HEAD + "complaint 7 " + sort + " 1;";
            bad(one + "complaint 7 " + sort + " 1;", one.length() + 12);
            bad(one + "complaint 07 " + sort + " 9;", one.length() + 13);
            bad(one + "complaint 7 " + sort, one.length() + 12);
            bad(one + "complaint 7 " + sort + " 0;", one.length() + 12);
            Check.due("of another person", busy(one + "complaint 8 " + sort + " 1;").load(), 2);
        }
        good(HEAD + "complaint 7 glare 1;complaint 7 gloom 1;complaint 7 tide 1;complaint 7 face 1;",
                HEAD_STATE + " complaint 7 0 1 0 w complaint 7 1 1 0 w complaint 7 2 1 0 w complaint 7 3 1 0 w");
        bad(HEAD + "complaint 7 tide 1;complaint 8 tide 1;complaint 7 tide 1;", 70);
    }

    /** "the first token that is not allowed" */
    private static void theFirstOfSeveralErrors() {
        bad("moon 0 14 8;clouds 10;", 5);
        bad("moon 8 14 8;clouds 10;", 7);
        bad("moon 8 2 8;clouds 10;", 9);
        bad("moon 8 2 6;clouds 10 10;clerk 0 100;", 18);
        bad(HEAD + "clerk 0 100;complaint 100 x 0;", 26);
        bad(HEAD + "complaint 100 x 0;", 30);
        bad(HEAD + "complaint 1 x 0;", 32);
        bad(HEAD + "complaint 1 tide 0#", 37);
        bad("#" + HEAD + "#", 0);
    }

    /** "All these complaints are filed in night 0." */
    private static void allAreFiledInNight0() {
        MoonComplaintWindow window = busy(HEAD + "complaint 1 tide 1;complaint 2 tide 1;");
        Check.due("night before", window.night(), 10);
        window.load();
        Check.due("night", window.night(), 0);
        Check.due("filedIn 0", window.filedIn(0), 0);
        Check.due("filedIn 1", window.filedIn(1), 0);
        Check.due("giveUp: the age", window.giveUp(0), 0);
    }

    /** "everything except the written text is replaced: the night and all counts are 0, nothing can be undone, .." */
    private static void loadReplacesAllButTheWrittenText() {
        String written = Check.written(busy(""), 1);
        MoonComplaintWindow window = busy(HEAD);
        Check.due("load", window.load(), 0);
        Check.due("state", Check.state(window), HEAD_STATE);
        int[] counts = {window.waitingCount(), window.answeredCount(), window.dismissedCount(), window.givenUpCount(),
            window.oilUsed(), window.comfort(), window.complaintCount(), window.clerkCount()};
        Check.due("all counts", Arrays.stream(counts).sum(), 0);
        Check.due("meanWait", window.meanWait(), 0.0);
        Check.due("answeredShare", window.answeredShare(), 0.0);
        for (int i = 0; i < written.length(); i++) {
            Check.due("the written text", window.writtenByte(i), written.charAt(i));
        }
        Check.due("the buffer is empty", window.append(0, 0, 0, 0, 0), 20);
        Refused.due("undo", WRONG_STATE, () -> loadedBusy(), w -> w.undo());
        Refused.due("slot 0", NoSuchElementException.class, () -> loadedBusy(), w -> w.restoreSnapshot(0));
        Refused.due("slot 1", NoSuchElementException.class, () -> loadedBusy(), w -> w.restoreSnapshot(1));
        Refused.due("errorOffset", NoSuchElementException.class, () -> loadedBusy(), w -> w.errorOffset());
    }

    private static MoonComplaintWindow loadedBusy() {
        MoonComplaintWindow window = busy(HEAD);
        window.load();
        return window;
    }

    /** "whether the latest call of load found an error; false if there was no such call" */
    private static void theLatestLoadCounts() {
        MoonComplaintWindow window = new MoonComplaintWindow();
        Check.due("no such call", window.hasError(), false);
        Refused.due("errorOffset of no such call", NoSuchElementException.class, MoonComplaintWindow::new,
                w -> w.errorOffset());
        Check.put(window, "moon x");
        Check.due("a text alone is no error", window.hasError(), false);
        Check.dueThrow("load", WRONG_ARGUMENT, () -> window.load());
        Check.due("an error", window.errorOffset(), 5);
        Check.put(window, HEAD + "x");
        Check.due("the error stays till load", window.errorOffset(), 5);
        Check.dueThrow("load", WRONG_ARGUMENT, () -> window.load());
        Check.due("another error", window.errorOffset(), 20);
        Check.put(window, HEAD);
        window.load();
        Check.due("none any more", window.hasError(), false);
        Check.dueThrow("load", WRONG_ARGUMENT, () -> window.load());
        Check.due("and again", window.errorOffset(), 0);
    }
}
