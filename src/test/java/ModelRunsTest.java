import java.lang.reflect.InvocationTargetException;
import java.lang.reflect.Method;
import java.lang.reflect.Modifier;
import java.nio.charset.StandardCharsets;
import java.util.ArrayList;
import java.util.Arrays;
import java.util.Collections;
import java.util.Comparator;
import java.util.LinkedHashSet;
import java.util.List;
import java.util.Random;

/**
 * All promises: many runs of calls, drawn by fixed seeds, on a window and on the model, whose answers must agree. Runs of
 * the first kind draw every call alike; in those of the second kind changes, texts, undoing, snapshots and nights follow
 * each other, and then everything is asked that can be.
 */
public final class ModelRunsTest {
    private static final int RUNS = 2400;
    private static final int CALLS = 512;
    private static final String[] SORTS = {"glare", "gloom", "tide", "face"};
    private static final String[] STEPS = {"fileComplaint", "fileComplaint", "fileComplaint", "addClerk",
        "refill", "refill", "refill", "setCloud", "setGlareLimit", "setGloomLimit", "setTideLimit", "writeComplaints"};
    private static final String SPOILERS = " \n;09a:z\u0000\u00ffmX/{`,\t";

    private final Random random;
    private final int run;
    private final MoonComplaintWindow window = new MoonComplaintWindow();
    private final Model model = new Model();
    private final StringBuilder told = new StringBuilder();
    private int calls = 0;
    private boolean agree = true;

    private ModelRunsTest(int run) {
        this.run = run;
        this.random = new Random(run);
    }

    public static void main(String[] args) {
        List<Method> methods = methods();
        for (int run = 1; run <= RUNS; run++) {
            ModelRunsTest test = new ModelRunsTest(run);
            if (run % 2 == 0) {
                test.go(methods);
            } else {
                test.changeAndAsk(methods);
            }
            Check.due("run " + run, test.agree ? "agrees" : test.told.toString(), "agrees");
            if (!test.agree) {
                break;
            }
        }
        Check.end("ModelRunsTest");
    }

    /** The methods of the face; those that change the window stand several times, so that they are drawn more often. */
    private static List<Method> methods() {
        List<Method> methods = new ArrayList<>();
        for (Method method : MoonComplaintWindow.class.getDeclaredMethods()) {
            if (Modifier.isPublic(method.getModifiers())) {
                boolean changes = method.getName().matches("fileComplaint|endNights|refill|set.*|undo|.*Snapshot|addClerk");
                for (int i = 0; i < (changes ? 3 : 1); i++) {
                    methods.add(method);
                }
            }
        }
        methods.sort(Comparator.comparing(Method::getName));
        return methods;
    }

    private void go(List<Method> methods) {
        if (random.nextInt(4) > 0) {
            loadText(methods);
        }
        while (calls < CALLS && agree) {
            Method method = methods.get(random.nextInt(methods.size()));
            String name = method.getName();
            if (name.equals("load") && random.nextInt(3) > 0) {
                loadText(methods);
            } else if ((name.equals("load") || name.equals("append")) && random.nextInt(8) > 0) {
                continue;
            } else {
                call(method, arguments(method));
            }
        }
    }

    private void changeAndAsk(List<Method> methods) {
        int past = random.nextInt(CALLS);
        if (random.nextBoolean()) {
            loadText(methods);
        }
        // One run in four comes near the last night.
        for (int i = random.nextInt(4) == 0 ? 15 : 0; i > 0; i--) {
            call(find(methods, "endNights"), 60);
        }
        while (calls < past && agree) {
            switch (random.nextInt(20)) {
                case 0, 1, 2, 3 -> call(find(methods, "undo"));
                case 4 -> call(find(methods, "saveSnapshot"), random.nextInt(2));
                case 5 -> call(find(methods, "restoreSnapshot"), random.nextInt(2));
                case 6, 7 -> call(find(methods, "endNights"), between(1, 30));
                case 8, 9 -> call(find(methods, "endNights"), between(1, 7));
                case 10 -> loadSometimes(methods);
                case 11 -> call(find(methods, "giveUp"), random.nextInt(24));
                default -> {
                    Method change = find(methods, STEPS[random.nextInt(STEPS.length)]);
                    call(change, arguments(change));
                }
            }
        }
        askAll(methods);
    }

    /** Texts take many calls and empty the past, so that they are drawn less often than the rest. */
    private void loadSometimes(List<Method> methods) {
        if (random.nextInt(6) == 0) {
            loadText(methods);
        } else if (random.nextBoolean()) {
            call(find(methods, "load"));
        }
    }

    /** Every question once, in a drawn order, and now and then all undoing that is left, up to the last of the calls. */
    private void askAll(List<Method> methods) {
        List<Runnable> questions = new ArrayList<>();
        for (Method method : new LinkedHashSet<>(methods)) {
            if (method.getParameterCount() == 0 && !method.getName().matches("load|undo")) {
                questions.add(() -> call(method));
            }
            for (int i = 0; i < numbersFor(method.getName()); i++) {
                int number = i;
                questions.add(() -> call(method, number));
            }
        }
        Collections.shuffle(questions, random);
        if (random.nextInt(3) == 0) {
            questions.addAll(0, Collections.nCopies(9, () -> call(find(methods, "undo"))));
        }
        for (int i = 0; i < questions.size() && agree; i++) {
            questions.get(i).run();
        }
    }

    /** How many complaints, clerks, clouds or sorts this call can be asked about. */
    private int numbersFor(String name) {
        if (name.matches("(person|sort|anger|clerk)Of|(filed|closed)In|is(Waiting|Answered|Dismissed|GivenUp)|nightsToClose|will.*")) {
            return model.complaintCount();
        }
        if (name.matches("(skill|oil)Of|answeredBy")) {
            return model.clerkCount();
        }
        if (name.equals("cloudOf")) {
            return model.cloudCount();
        }
        return name.matches("nextJustified|justifiedNights") ? 4 : 0;
    }

    private void loadText(List<Method> methods) {
        byte[] text = text().getBytes(StandardCharsets.ISO_8859_1);
        call(find(methods, "shorten"), 0);
        for (int from = 0; from < text.length && agree; from += 20) {
            int[] words = Check.words(Arrays.copyOfRange(text, from, from + 20));
            call(find(methods, "append"), words[0], words[1], words[2], words[3], words[4]);
        }
        call(find(methods, "shorten"), Math.min(600, text.length));
        call(find(methods, "load"));
        call(find(methods, "hasError"));
        call(find(methods, "errorOffset"));
    }

    private static Method find(List<Method> methods, String name) {
        return methods.stream().filter(m -> m.getName().equals(name)).findFirst().get();
    }

    private void call(Method method, Integer... arguments) {
        if (calls == CALLS) {
            return;
        }
        calls++;
        String due = answer(model, method, arguments);
        String got = answer(window, method, arguments);
        told.append(method.getName()).append(Arrays.toString(arguments)).append(" = ").append(got).append('\n');
        if (!got.equals(due)) {
            agree = false;
            told.append("due is ").append(due);
        }
    }

    private String answer(Object on, Method method, Integer[] arguments) {
        try {
            Method own = on.getClass().getMethod(method.getName(), method.getParameterTypes());
            return String.valueOf(own.invoke(on, (Object[]) arguments));
        } catch (InvocationTargetException thrown) {
            Class<?> type = thrown.getCause().getClass();
            boolean promised = Arrays.asList(method.getExceptionTypes()).contains(type);
            return (promised ? "throws." : "throws, though no clause says so, ") + type.getSimpleName();
        } catch (ReflectiveOperationException impossible) {
            return impossible.toString();
        }
    }

    private Integer[] arguments(Method method) {
        Integer[] arguments = new Integer[method.getParameterCount()];
        for (int i = 0; i < arguments.length; i++) {
            arguments[i] = random.nextInt(150) == 0 ? random.nextInt() : argument(method.getName(), i);
        }
        return arguments;
    }

    private int between(int least, int most) {
        return least + random.nextInt(most - least + 1);
    }

    private int argument(String name, int place) {
        switch (name + place) {
            case "lightOf0": case "tideOf0": case "cloudOf0": case "visibleLight0": case "isJustified1":
                return random.nextInt(4) > 0 ? between(-1, 2001) : model.night() + between(0, 30);
            case "isJustified0": case "nextJustified0": case "justifiedNights0": case "waitingOf1": case "fileComplaint1":
                return random.nextInt(12) == 0 ? between(-1, 4) : between(0, 3);
            case "waitingOf0": case "complaintsOf0": case "fileComplaint0": case "writeComplaints0":
                return random.nextInt(12) == 0 ? between(-1, 100) : between(0, 5);
            case "fileComplaint2":
                return random.nextInt(12) == 0 ? between(0, 10) : between(1, 9);
            case "giveUp0":
                return random.nextInt(3) > 0 ? -1 : between(0, model.complaintCount());
            case "skillOf0": case "oilOf0": case "answeredBy0": case "refill0":
                return between(-1, model.clerkCount());
            case "addClerk0":
                return between(0, 10);
            case "addClerk1": case "refill1":
                return between(-1, 101);
            case "setCloud0":
                return between(-1, model.cloudCount());
            case "setCloud1": case "setTideLimit0":
                return between(-1, 10);
            case "setGlareLimit0": case "setGloomLimit0":
                return between(-1, 16);
            case "endNights0":
                return random.nextInt(6) == 0 ? between(-1, 62) : between(1, 9);
            case "saveSnapshot0": case "restoreSnapshot0":
                return between(-1, 2);
            case "writtenByte0":
                return between(-1, 20);
            case "shorten0":
                return between(-1, 40);
            default:
                return name.equals("append") ? random.nextInt() : between(-1, model.complaintCount());
        }
    }

    /** A text, mostly without an error, or with one that is made by spoiling it in a place. */
    private String text() {
        StringBuilder text = new StringBuilder();
        put(text, "moon", number(1, 14), number(0, 13), number(0, 7), ";");
        put(text, "clouds");
        for (int i = random.nextInt(20) == 0 ? between(9, 11) : between(1, 10); i > 0; i--) {
            put(text, number(0, 9));
        }
        put(text, ";");
        for (int i = random.nextInt(20) == 0 ? between(5, 6) : between(0, 3); i > 0; i--) {
            put(text, "clerk", number(1, 9), number(0, 99), ";");
        }
        int most = random.nextInt(5) == 0 ? 26 : between(0, 9);
        int[] waiting = new int[100];
        for (int i = 0; i < most && text.length() < 570; i++) {
            int person = random.nextInt(most > 9 ? 100 : 4);
            int sort = random.nextInt(4);
            if ((waiting[person] >> sort & 1) == 0 || random.nextInt(40) == 0) {
                waiting[person] |= 1 << sort;
                put(text, "complaint", (person < 10 && random.nextBoolean() ? "0" : "") + person, SORTS[sort], number(1, 9), ";");
            }
        }
        if (text.length() > 0 && random.nextInt(2) == 0) {
            spoil(text);
        }
        return text.length() > 600 ? text.substring(0, 600) : text.toString();
    }

    private String number(int least, int most) {
        int number = random.nextInt(80) == 0 ? between(0, 100) : between(least, most);
        return (number < 10 && random.nextInt(8) == 0 ? "0" : "") + number;
    }

    private void put(StringBuilder text, String... tokens) {
        for (String token : tokens) {
            boolean parted = text.length() > 0 && Character.isDigit(text.charAt(text.length() - 1))
                    && Character.isDigit(token.charAt(0));
            if (parted || random.nextInt(6) == 0) {
                text.append(random.nextInt(6) == 0 ? '\n' : ' ');
            }
            text.append(token);
        }
    }

    private void spoil(StringBuilder text) {
        int at = random.nextInt(text.length());
        char spoiler = SPOILERS.charAt(random.nextInt(SPOILERS.length()));
        switch (random.nextInt(4)) {
            case 0 -> text.setCharAt(at, spoiler);
            case 1 -> text.insert(at, spoiler);
            case 2 -> text.deleteCharAt(at);
            default -> text.setLength(at);
        }
    }
}
