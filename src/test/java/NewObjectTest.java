/** Promise 1. */
public final class NewObjectTest {
    public static void main(String[] args) {
        MoonComplaintWindow window = new MoonComplaintWindow();
        Check.due("state", Check.state(window),
                "night 0 limits 8 2 6 clouds 0 3 9 clerk 3 20 0 clerk 7 5 0 used 0"
                + " complaint 4 0 5 0 w complaint 4 1 2 0 w complaint 9 2 6 0 w complaint 30 3 9 0 w");
        String text = "moon 8 2 6;clouds 0 3 9;clerk 3 20;clerk 7 5;"
                + "complaint 4 glare 5;complaint 4 gloom 2;complaint 9 tide 6;complaint 30 face 9;";
        Check.due("as from the text", Check.state(window), Check.state(Check.loaded(text)));
        Check.due("hasError", window.hasError(), false);
        Check.dueThrow("errorOffset", java.util.NoSuchElementException.class, () -> window.errorOffset());
        Check.dueThrow("shorten(1): the buffer is empty", IllegalArgumentException.class, () -> window.shorten(1));
        Check.due("shorten(0)", window.shorten(0), 0);
        Check.dueThrow("undo", IllegalStateException.class, () -> window.undo());
        Check.dueThrow("restore 0", java.util.NoSuchElementException.class, () -> window.restoreSnapshot(0));
        Check.dueThrow("restore 1", java.util.NoSuchElementException.class, () -> window.restoreSnapshot(1));
        Check.dueThrow("writtenByte", IndexOutOfBoundsException.class, () -> window.writtenByte(0));
        Check.end("NewObjectTest");
    }
}
