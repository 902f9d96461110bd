import java.nio.charset.StandardCharsets;
import java.util.Arrays;

/** What the tests share: checks that are counted, and texts put into a window. */
final class Check {
    interface Call {
        long answer();
    }

    private static int checks = 0;
    private static int wrong = 0;

    private Check() {
    }

    static void due(String what, long got, long want) {
        checks++;
        if (got != want) {
            complain(what + " answered " + got + ", due is " + want);
        }
    }

    static void due(String what, boolean got, boolean want) {
        due(what, got ? 1 : 0, want ? 1 : 0);
    }

    static void due(String what, double got, double want) {
        checks++;
        if (Double.doubleToRawLongBits(got) != Double.doubleToRawLongBits(want)) {
            complain(what + " answered " + got + ", due is " + want);
        }
    }

    static void due(String what, String got, String want) {
        checks++;
        if (!got.equals(want)) {
            complain(what + " answered " + got + ", due is " + want);
        }
    }

    static void dueThrow(String what, Class<? extends RuntimeException> want, Call call) {
        checks++;
        try {
            long got = call.answer();
            complain(what + " answered " + got + ", due is " + want.getSimpleName());
        } catch (RuntimeException thrown) {
            if (thrown.getClass() != want) {
                complain(what + " threw " + thrown + ", due is " + want.getSimpleName());
            }
        }
    }

    private static void complain(String sentence) {
        wrong++;
        System.out.println(sentence);
    }

    /** Tells how the checks went; the exit code is 1 if one was wrong. */
    static void end(String test) {
        System.out.println(test + ": " + (checks - wrong) + " of " + checks + " checks as due");
        if (wrong > 0 || checks == 0) {
            System.exit(1);
        }
    }

    /** Puts a text behind what the input buffer holds. */
    static void put(MoonComplaintWindow window, String text) {
        put(window, text.getBytes(StandardCharsets.ISO_8859_1));
    }

    static void put(MoonComplaintWindow window, byte[] text) {
        int length = 0;
        for (int from = 0; from < text.length; from += 20) {
            int[] words = words(Arrays.copyOfRange(text, from, from + 20));
            length = window.append(words[0], words[1], words[2], words[3], words[4]);
        }
        if (text.length > 0) {
            window.shorten(length - (20 - text.length % 20) % 20);
        }
    }

    static int[] words(byte[] twenty) {
        int[] words = new int[5];
        for (int i = 0; i < 20; i++) {
            words[i / 4] = words[i / 4] << 8 | twenty[i] & 255;
        }
        return words;
    }

    static MoonComplaintWindow loaded(String text) {
        MoonComplaintWindow window = new MoonComplaintWindow();
        put(window, text);
        window.load();
        return window;
    }

    static String written(MoonComplaintWindow window, int person) {
        int length = window.writeComplaints(person);
        StringBuilder text = new StringBuilder();
        for (int i = 0; i < length; i++) {
            text.append((char) window.writtenByte(i));
        }
        return text.toString();
    }

    /** Everything that undo restores, as far as the queries tell it. */
    static String state(MoonComplaintWindow w) {
        StringBuilder text = new StringBuilder();
        text.append("night ").append(w.night()).append(" limits ").append(w.glareLimit()).append(' ');
        text.append(w.gloomLimit()).append(' ').append(w.tideLimit()).append(" clouds");
        for (int i = 0; i < w.cloudCount(); i++) {
            text.append(' ').append(w.cloudOf(i));
        }
        for (int c = 0; c < w.clerkCount(); c++) {
            text.append(" clerk ").append(w.skillOf(c)).append(' ').append(w.oilOf(c));
            text.append(' ').append(w.answeredBy(c));
        }
        text.append(" used ").append(w.oilUsed());
        for (int c = 0; c < w.complaintCount(); c++) {
            text.append(" complaint ").append(w.personOf(c)).append(' ').append(w.sortOf(c));
            text.append(' ').append(w.angerOf(c)).append(' ').append(w.filedIn(c)).append(' ');
            text.append(w.isWaiting(c) ? "w" : w.isAnswered(c) ? "a" : w.isDismissed(c) ? "d" : "g");
            if (!w.isWaiting(c)) {
                text.append(w.closedIn(c));
            }
            if (w.isAnswered(c) || w.isDismissed(c)) {
                text.append(" by ").append(w.clerkOf(c));
            }
        }
        return text.toString();
    }
}
