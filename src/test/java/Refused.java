/**
 * Refused calls: "A call that throws an exception changes nothing". Two windows are made by the same past, one of
 * them makes the refused call besides, and all that can be asked of them afterwards must be answered alike. Every
 * view gets windows of its own, since it may use them up and since an object is promised for 512 calls only.
 */
final class Refused {
    interface Past {
        MoonComplaintWindow window();
    }

    interface Call {
        long on(MoonComplaintWindow window);
    }

    private interface View {
        String of(MoonComplaintWindow window);
    }

    private static final View[] OFFICE_VIEWS = {
        Check::state, Refused::sky, Refused::totals, Refused::predictions, Refused::writtenText, Refused::undone,
        w -> restored(w, 0), w -> restored(w, 1),
    };
    private static final View[] INPUT_VIEWS = {Refused::inputLength, Refused::inputText, Refused::error};

    private Refused() {
    }

    static void due(String what, Class<? extends RuntimeException> want, Past past, Call call) {
        dueIn(OFFICE_VIEWS, what, want, past, call);
        dueIn(INPUT_VIEWS, what, want, past, call);
    }

    /** The same of load, which empties the input buffer and sets the error all the same. */
    static void dueOfLoad(String what, Past past, int offset) {
        dueIn(OFFICE_VIEWS, what, IllegalArgumentException.class, past, w -> w.load());
        MoonComplaintWindow window = past.window();
        Check.due(what, answer(window, w -> w.load()), "throws.IllegalArgumentException");
        Check.due(what + ": hasError", window.hasError(), true);
        Check.due(what + ": errorOffset", answer(window, w -> w.errorOffset()), String.valueOf(offset));
        Check.due(what + ": the buffer is empty", inputLength(window), "0");
    }

    private static void dueIn(View[] views, String what, Class<? extends RuntimeException> want, Past past, Call call) {
        for (View view : views) {
            MoonComplaintWindow window = past.window();
            Check.dueThrow(what, want, () -> call.on(window));
            Check.due(what + ": nothing is changed", view.of(window), view.of(past.window()));
        }
    }

    /** Calls that are answered, and behind which the office or the input is as it was. */
    static void dueNoChange(String what, Past past, Call call) {
        dueNoOfficeChange(what, past, call);
        dueNoInputChange(what, past, call);
    }

    static void dueNoOfficeChange(String what, Past past, Call call) {
        dueSame(OFFICE_VIEWS, what, past, call);
    }

    static void dueNoInputChange(String what, Past past, Call call) {
        dueSame(INPUT_VIEWS, what, past, call);
    }

    private static void dueSame(View[] views, String what, Past past, Call call) {
        for (View view : views) {
            MoonComplaintWindow window = past.window();
            call.on(window);
            Check.due(what + ": nothing is changed", view.of(window), view.of(past.window()));
        }
    }

    /** What a call answers, or the name of what it throws. */
    static String answer(MoonComplaintWindow window, Call call) {
        try {
            return String.valueOf(call.on(window));
        } catch (RuntimeException thrown) {
            return "throws." + thrown.getClass().getSimpleName();
        }
    }

    private static String sky(MoonComplaintWindow window) {
        StringBuilder text = new StringBuilder();
        text.append(window.oilCost()).append(' ').append(window.likeliestSort());
        for (int i = 0; i < 4; i++) {
            int sort = i;
            text.append(" sort ").append(answer(window, w -> w.nextJustified(sort)));
            text.append(' ').append(window.justifiedNights(sort));
        }
        return text.toString();
    }

    private static String totals(MoonComplaintWindow window) {
        return window.waitingCount() + " " + window.answeredCount() + " " + window.dismissedCount() + " "
                + window.givenUpCount() + " " + window.oilUsed() + " " + window.comfort() + " " + window.meanWait() + " "
                + window.answeredShare() + " " + answer(window, w -> w.oldest()) + " " + answer(window, w -> w.angriest())
                + " " + answer(window, w -> w.darkestClerk());
    }

    private static String predictions(MoonComplaintWindow window) {
        StringBuilder text = new StringBuilder().append(window.answersTonight());
        for (int i = 0; i < window.complaintCount(); i++) {
            int complaint = i;
            text.append(" complaint ").append(answer(window, w -> w.nightsToClose(complaint)));
            text.append(' ').append(answer(window, w -> w.willBeAnswered(complaint) ? 1 : 0));
        }
        return text.toString();
    }

    private static String writtenText(MoonComplaintWindow window) {
        StringBuilder text = new StringBuilder();
        String one = "";
        for (int i = 0; !one.startsWith("throws") && i < 200; i++) {
            int index = i;
            one = answer(window, w -> w.writtenByte(index));
            text.append(one).append(' ');
        }
        return text.toString();
    }

    /** What can be undone, down to the last of it. */
    private static String undone(MoonComplaintWindow window) {
        StringBuilder text = new StringBuilder();
        String left = "";
        for (int i = 0; !left.startsWith("throws") && i < 10; i++) {
            left = answer(window, w -> w.undo());
            text.append(left).append(": ").append(window.night()).append(' ').append(totals(window));
            text.append(' ').append(window.glareLimit()).append(' ').append(window.gloomLimit());
            text.append(' ').append(window.tideLimit()).append(' ').append(window.cloudOf(0));
            text.append(' ').append(window.clerkCount()).append(' ').append(window.complaintCount()).append('\n');
        }
        return text.toString();
    }

    private static String restored(MoonComplaintWindow window, int slot) {
        return answer(window, w -> w.restoreSnapshot(slot)) + " " + Check.state(window);
    }

    private static String inputLength(MoonComplaintWindow window) {
        String longer = answer(window, w -> w.append(0, 0, 0, 0, 0));
        if (!longer.startsWith("throws")) {
            return String.valueOf(Integer.parseInt(longer) - 20);
        }
        // It is more than 580: shorten takes no length above that of the buffer.
        String length = longer;
        for (int i = 600; length.startsWith("throws") && i > 580; i--) {
            int tried = i;
            length = answer(window, w -> w.shorten(tried));
        }
        return length;
    }

    private static String inputText(MoonComplaintWindow window) {
        String loaded = answer(window, w -> w.load());
        return loaded + " " + answer(window, w -> w.errorOffset()) + " " + Check.state(window);
    }

    private static String error(MoonComplaintWindow window) {
        return window.hasError() + " " + answer(window, w -> w.errorOffset());
    }
}
