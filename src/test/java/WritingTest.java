/** Promises 64 and 65. */
public final class WritingTest {
    public static void main(String[] args) {
        MoonComplaintWindow window = new MoonComplaintWindow();
        Check.dueThrow("before the first writing", IndexOutOfBoundsException.class, () -> window.writtenByte(0));
        Check.due("length", window.writeComplaints(4), 8);
        int[] due = {'0', ':', 'w', '\n', '1', ':', 'w', '\n'};
        for (int i = 0; i < due.length; i++) {
            Check.due("writtenByte " + i, window.writtenByte(i), due[i]);
        }
        Check.dueThrow("behind the end", IndexOutOfBoundsException.class, () -> window.writtenByte(8));
        Check.dueThrow("before the start", IndexOutOfBoundsException.class, () -> window.writtenByte(-1));
        Check.dueThrow("MIN", IndexOutOfBoundsException.class, () -> window.writtenByte(Integer.MIN_VALUE));
        Check.dueThrow("MAX", IndexOutOfBoundsException.class, () -> window.writtenByte(Integer.MAX_VALUE));
        wrongPersonsKeepTheText(window);
        Check.due("a shorter text replaces it", window.writeComplaints(9), 4);
        Check.due("writtenByte 0", window.writtenByte(0), '2');
        Check.dueThrow("the old text is gone", IndexOutOfBoundsException.class, () -> window.writtenByte(4));
        Check.due("a person without complaints", window.writeComplaints(99), 0);
        Check.dueThrow("nothing is written", IndexOutOfBoundsException.class, () -> window.writtenByte(0));
        textStaysAsItWasWritten();
        letters();
        longest();
        Check.end("WritingTest");
    }

    private static void wrongPersonsKeepTheText(MoonComplaintWindow window) {
        Check.dueThrow("writeComplaints(-1)", IllegalArgumentException.class, () -> window.writeComplaints(-1));
        Check.dueThrow("writeComplaints(100)", IllegalArgumentException.class, () -> window.writeComplaints(100));
        Check.due("the text is kept", window.writtenByte(4), '1');
    }

    private static void textStaysAsItWasWritten() {
        MoonComplaintWindow window = new MoonComplaintWindow();
        window.giveUp(2);
        window.writeComplaints(9);
        window.undo();
        Check.due("undo leaves the text", window.writtenByte(2), 'g');
        window.saveSnapshot(0);
        window.restoreSnapshot(0);
        Check.due("a snapshot leaves the text", window.writtenByte(2), 'g');
    }

    private static void letters() {
        MoonComplaintWindow window = Check.loaded("moon 14 0 7;clouds 9;clerk 6 99;"
                + "complaint 1 glare 1;complaint 2 tide 3;complaint 1 tide 2;complaint 1 face 3;complaint 1 gloom 9;");
        window.endNights(14);
        window.giveUp(3);
        Check.due("person 2", Check.written(window, 2), "1:a\n");
        Check.due("person 1", Check.written(window, 1), "0:w\n2:a\n3:g\n4:a\n");
        window.endNights(1);
        Check.due("person 1", Check.written(window, 1), "0:d\n2:a\n3:g\n4:a\n");
    }

    private static void longest() {
        MoonComplaintWindow window = Check.loaded("moon 8 2 6;clouds 0;");
        StringBuilder due = new StringBuilder();
        for (int i = 0; i < 24; i++) {
            window.fileComplaint(0, i % 4, 1);
            if (i < 23) {
                window.giveUp(i);
            }
            due.append(i).append(i < 23 ? ":g\n" : ":w\n");
        }
        Check.due("24 complaints of one person", Check.written(window, 0), due.toString());
        Check.due("length", window.writeComplaints(0), 10 * 4 + 14 * 5);
    }
}
