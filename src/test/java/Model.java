import java.util.ArrayDeque;
import java.util.ArrayList;
import java.util.Comparator;
import java.util.Deque;
import java.util.List;
import java.util.NoSuchElementException;
import java.util.Optional;
import java.util.function.Predicate;
import java.util.regex.Matcher;
import java.util.regex.Pattern;
import java.util.stream.IntStream;

/**
 * The document once more, for ModelRunsTest to compare with: written from the document alone, in another
 * manner than the program (lists of objects, deep copies, a regular expression for tokens), so that a slip in
 * one of the two shows.
 */
public final class Model {
    private static final String[] SORTS = {"glare", "gloom", "tide", "face"};

    private static final class Complaint {
        int number;
        int person;
        int sort;
        int anger;
        int filed;
        char state = 'w';
        int closed;
        Integer clerk;

        Complaint copy() {
            Complaint c = new Complaint();
            c.number = number;
            c.person = person;
            c.sort = sort;
            c.anger = anger;
            c.filed = filed;
            c.state = state;
            c.closed = closed;
            c.clerk = clerk;
            return c;
        }
    }

    private static final class Clerk {
        int skill;
        int oil;
        int answered;
        int used;

        Clerk copy() {
            Clerk c = new Clerk();
            c.skill = skill;
            c.oil = oil;
            c.answered = answered;
            c.used = used;
            return c;
        }
    }

    private static final class State {
        int night;
        int glare;
        int gloom;
        int tide;
        List<Integer> clouds = new ArrayList<>();
        List<Complaint> complaints = new ArrayList<>();
        List<Clerk> clerks = new ArrayList<>();

        State copy() {
            State s = new State();
            s.night = night;
            s.glare = glare;
            s.gloom = gloom;
            s.tide = tide;
            s.clouds.addAll(clouds);
            complaints.forEach(c -> s.complaints.add(c.copy()));
            clerks.forEach(c -> s.clerks.add(c.copy()));
            return s;
        }

        int light(int night) {
            int age = night % 28;
            return age <= 14 ? age : 28 - age;
        }

        int tideOf(int night) {
            int half = night % 14;
            return half <= 7 ? 7 - half : half - 7;
        }

        int cloud(int night) {
            return clouds.get(night % clouds.size());
        }

        int visible(int night) {
            return (int) Math.floor(light(night) * (10 - cloud(night)) / 10.0);
        }

        int cost(int night) {
            return 6 - visible(night) / 3;
        }

        boolean justified(int sort, int night) {
            return sort == 0 ? visible(night) >= glare
                    : sort == 1 ? visible(night) <= gloom
                    : sort == 2 ? tideOf(night) >= tide
                    : light(night) >= 4 && cloud(night) < 3;
        }

        List<Complaint> in(char state) {
            return complaints.stream().filter(c -> c.state == state).toList();
        }

        Optional<Complaint> greatest(Predicate<Complaint> which, Comparator<Complaint> by) {
            return in('w').stream().filter(which)
                    .max(by.thenComparing(Comparator.comparingInt((Complaint c) -> c.number).reversed()));
        }

        int endNight() {
            int answered = 0;
            for (int number = 0; number < clerks.size(); number++) {
                Clerk clerk = clerks.get(number);
                for (int left = 1 + clerk.skill / 3; left > 0 && clerk.oil >= cost(night); left--) {
                    Optional<Complaint> next = greatest(c -> justified(c.sort, night), Comparator.comparingInt(c -> c.anger));
                    char state = 'a';
                    if (next.isEmpty()) {
                        next = greatest(c -> night - c.filed >= 14, Comparator.comparingInt(c -> night - c.filed));
                        state = 'd';
                    }
                    if (next.isEmpty()) {
                        break;
                    }
                    next.get().state = state;
                    next.get().closed = night;
                    next.get().clerk = number;
                    clerk.oil -= cost(night);
                    clerk.used += cost(night);
                    if (state == 'a') {
                        clerk.answered++;
                        answered++;
                    }
                }
            }
            night++;
            for (Complaint c : in('w')) {
                int age = night - c.filed;
                if (age % 7 == 0 && c.anger < 9) {
                    c.anger++;
                }
                if (age == 56) {
                    c.state = 'g';
                    c.closed = night;
                }
            }
            return answered;
        }
    }

    private static final class Bad extends Exception {
        private static final long serialVersionUID = 1;
        final int offset;

        Bad(int offset) {
            this.offset = offset;
        }
    }

    private static final class Reader {
        private static final Pattern TOKEN = Pattern.compile("[a-z]+|[0-9]+|[^ \n]", Pattern.DOTALL);
        private final List<String> tokens = new ArrayList<>();
        private final List<Integer> starts = new ArrayList<>();
        private int at = 0;

        Reader(String text) {
            Matcher matcher = TOKEN.matcher(text);
            while (matcher.find()) {
                tokens.add(matcher.group());
                starts.add(matcher.start());
            }
            tokens.add("");
            starts.add(text.length());
        }

        String peek() {
            return tokens.get(at);
        }

        boolean isNumber() {
            return peek().matches("[0-9]{1,2}");
        }

        void need(boolean allowed) throws Bad {
            if (!allowed) {
                throw new Bad(starts.get(at));
            }
        }

        void word(String word) throws Bad {
            need(peek().equals(word));
            at++;
        }

        int number(int least, int most) throws Bad {
            need(isNumber());
            int value = Integer.parseInt(peek());
            need(value >= least && value <= most);
            at++;
            return value;
        }

        State read() throws Bad {
            State state = new State();
            word("moon");
            state.glare = number(1, 14);
            state.gloom = number(0, 13);
            state.tide = number(0, 7);
            word(";");
            word("clouds");
            do {
                need(state.clouds.size() < 10);
                state.clouds.add(number(0, 9));
            } while (isNumber());
            word(";");
            while (peek().equals("clerk")) {
                need(state.clerks.size() < 5);
                at++;
                Clerk clerk = new Clerk();
                clerk.skill = number(1, 9);
                clerk.oil = number(0, 99);
                word(";");
                state.clerks.add(clerk);
            }
            while (peek().equals("complaint")) {
                need(state.complaints.size() < 24);
                at++;
                complaint(state);
            }
            need(peek().isEmpty());
            return state;
        }

        private void complaint(State state) throws Bad {
            Complaint c = new Complaint();
            c.number = state.complaints.size();
            c.person = number(0, 99);
            c.sort = List.of(SORTS).indexOf(peek());
            need(c.sort >= 0 && state.complaints.stream().noneMatch(o -> o.person == c.person && o.sort == c.sort));
            at++;
            c.anger = number(1, 9);
            word(";");
            state.complaints.add(c);
        }
    }

    private final StringBuilder input = new StringBuilder();
    private State now;
    private Integer error = null;
    private String written = "";
    private final Deque<State> undoable = new ArrayDeque<>();
    private final State[] slots = new State[2];

    public Model() {
        input.append("moon 8 2 6;clouds 0 3 9;clerk 3 20;clerk 7 5;complaint 4 glare 5;complaint 4 gloom 2;"
                + "complaint 9 tide 6;complaint 30 face 9;");
        load();
    }

    private static void argument(boolean right) {
        if (!right) {
            throw new IllegalArgumentException();
        }
    }

    private static void index(boolean right) {
        if (!right) {
            throw new IndexOutOfBoundsException();
        }
    }

    private static void state(boolean right) {
        if (!right) {
            throw new IllegalStateException();
        }
    }

    private static void element(boolean right) {
        if (!right) {
            throw new NoSuchElementException();
        }
    }

    private static boolean in(int value, int least, int most) {
        return least <= value && value <= most;
    }

    private Complaint complaint(int number) {
        index(in(number, 0, now.complaints.size() - 1));
        return now.complaints.get(number);
    }

    private Clerk clerk(int number) {
        index(in(number, 0, now.clerks.size() - 1));
        return now.clerks.get(number);
    }

    private void change() {
        undoable.addLast(now.copy());
        if (undoable.size() > 8) {
            undoable.removeFirst();
        }
    }

    public int append(int a, int b, int c, int d, int e) {
        state(input.length() + 20 <= 600);
        for (int value : new int[] {a, b, c, d, e}) {
            for (byte one : java.nio.ByteBuffer.allocate(4).putInt(value).array()) {
                input.append((char) Byte.toUnsignedInt(one));
            }
        }
        return input.length();
    }

    public int shorten(int length) {
        argument(in(length, 0, input.length()));
        input.setLength(length);
        return length;
    }

    public int load() {
        String text = input.toString();
        input.setLength(0);
        try {
            now = new Reader(text).read();
            error = null;
        } catch (Bad bad) {
            error = bad.offset;
        }
        argument(error == null);
        undoable.clear();
        slots[0] = null;
        slots[1] = null;
        return now.complaints.size();
    }

    public boolean hasError() {
        return error != null;
    }

    public int errorOffset() {
        element(error != null);
        return error;
    }

    public int night() {
        return now.night;
    }

    public int lightOf(int night) {
        argument(in(night, 0, 2000));
        return now.light(night);
    }

    public int tideOf(int night) {
        argument(in(night, 0, 2000));
        return now.tideOf(night);
    }

    public int cloudOf(int night) {
        argument(in(night, 0, 2000));
        return now.cloud(night);
    }

    public int visibleLight(int night) {
        argument(in(night, 0, 2000));
        return now.visible(night);
    }

    public int glareLimit() {
        return now.glare;
    }

    public int gloomLimit() {
        return now.gloom;
    }

    public int tideLimit() {
        return now.tide;
    }

    public int cloudCount() {
        return now.clouds.size();
    }

    public boolean isJustified(int sort, int night) {
        argument(in(sort, 0, 3) && in(night, 0, 2000));
        return now.justified(sort, night);
    }

    public int nextJustified(int sort) {
        argument(in(sort, 0, 3));
        return IntStream.rangeClosed(now.night, now.night + 279).filter(n -> now.justified(sort, n))
                .findFirst().orElseThrow(NoSuchElementException::new);
    }

    public int justifiedNights(int sort) {
        argument(in(sort, 0, 3));
        return (int) IntStream.range(0, 28).filter(i -> now.justified(sort, now.night + i)).count();
    }

    public int likeliestSort() {
        return IntStream.range(0, 4).boxed()
                .min(Comparator.comparingInt((Integer s) -> -justifiedNights(s)).thenComparing(s -> s)).get();
    }

    public int complaintCount() {
        return now.complaints.size();
    }

    public int personOf(int complaint) {
        return complaint(complaint).person;
    }

    public int sortOf(int complaint) {
        return complaint(complaint).sort;
    }

    public int angerOf(int complaint) {
        return complaint(complaint).anger;
    }

    public int filedIn(int complaint) {
        return complaint(complaint).filed;
    }

    public boolean isWaiting(int complaint) {
        return complaint(complaint).state == 'w';
    }

    public boolean isAnswered(int complaint) {
        return complaint(complaint).state == 'a';
    }

    public boolean isDismissed(int complaint) {
        return complaint(complaint).state == 'd';
    }

    public boolean isGivenUp(int complaint) {
        return complaint(complaint).state == 'g';
    }

    public int closedIn(int complaint) {
        element(complaint(complaint).state != 'w');
        return complaint(complaint).closed;
    }

    public int clerkOf(int complaint) {
        element(complaint(complaint).clerk != null);
        return complaint(complaint).clerk;
    }

    public int waitingOf(int person, int sort) {
        argument(in(person, 0, 99) && in(sort, 0, 3));
        return now.in('w').stream().filter(c -> c.person == person && c.sort == sort).findFirst()
                .orElseThrow(NoSuchElementException::new).number;
    }

    public int waitingCount() {
        return now.in('w').size();
    }

    public int answeredCount() {
        return now.in('a').size();
    }

    public int dismissedCount() {
        return now.in('d').size();
    }

    public int givenUpCount() {
        return now.in('g').size();
    }

    public int oldest() {
        return now.greatest(c -> true, Comparator.comparingInt(c -> -c.filed)).orElseThrow(NoSuchElementException::new).number;
    }

    public int angriest() {
        return now.greatest(c -> true, Comparator.comparingInt(c -> c.anger)).orElseThrow(NoSuchElementException::new).number;
    }

    public int complaintsOf(int person) {
        argument(in(person, 0, 99));
        return (int) now.complaints.stream().filter(c -> c.person == person).count();
    }

    public int clerkCount() {
        return now.clerks.size();
    }

    public int darkestClerk() {
        element(!now.clerks.isEmpty());
        int least = now.clerks.stream().mapToInt(c -> c.oil).min().getAsInt();
        return now.clerks.stream().map(c -> c.oil).toList().indexOf(least);
    }

    public int skillOf(int clerk) {
        return clerk(clerk).skill;
    }

    public int oilOf(int clerk) {
        return clerk(clerk).oil;
    }

    public int answeredBy(int clerk) {
        return clerk(clerk).answered;
    }

    public int oilCost() {
        return now.cost(now.night);
    }

    public int oilUsed() {
        return now.clerks.stream().mapToInt(c -> c.used).sum();
    }

    public int comfort() {
        return now.in('a').stream().mapToInt(c -> c.anger).sum();
    }

    public double meanWait() {
        return now.in('a').stream().mapToInt(c -> c.closed - c.filed).average().orElse(0);
    }

    public float answeredShare() {
        int all = now.complaints.size() - now.in('w').size();
        return all == 0 ? 0 : (float) now.in('a').size() / all;
    }

    public int answersTonight() {
        return now.copy().endNight();
    }

    public int nightsToClose(int complaint) {
        state(complaint(complaint).state == 'w');
        State later = now.copy();
        while (later.complaints.get(complaint).state == 'w') {
            later.endNight();
        }
        return later.night - now.night;
    }

    public boolean willBeAnswered(int complaint) {
        state(complaint(complaint).state == 'w');
        State later = now.copy();
        while (later.complaints.get(complaint).state == 'w') {
            later.endNight();
        }
        return later.complaints.get(complaint).state == 'a';
    }

    public int fileComplaint(int person, int sort, int anger) {
        argument(in(person, 0, 99) && in(sort, 0, 3) && in(anger, 1, 9));
        state(now.complaints.size() < 24);
        state(now.in('w').stream().noneMatch(c -> c.person == person && c.sort == sort));
        change();
        Complaint c = new Complaint();
        c.number = now.complaints.size();
        c.person = person;
        c.sort = sort;
        c.anger = anger;
        c.filed = now.night;
        now.complaints.add(c);
        return c.number;
    }

    public int giveUp(int complaint) {
        state(complaint(complaint).state == 'w');
        change();
        complaint(complaint).state = 'g';
        complaint(complaint).closed = now.night;
        return now.night - complaint(complaint).filed;
    }

    public int addClerk(int skill, int oil) {
        argument(in(skill, 1, 9) && in(oil, 0, 99));
        state(now.clerks.size() < 5);
        change();
        Clerk clerk = new Clerk();
        clerk.skill = skill;
        clerk.oil = oil;
        now.clerks.add(clerk);
        return now.clerks.size() - 1;
    }

    public int refill(int clerk, int drops) {
        clerk(clerk);
        argument(in(drops, 1, 99));
        change();
        return clerk(clerk).oil = Math.min(99, clerk(clerk).oil + drops);
    }

    public int setCloud(int index, int cloud) {
        index(in(index, 0, now.clouds.size() - 1));
        argument(in(cloud, 0, 9));
        change();
        return now.clouds.set(index, cloud);
    }

    public int setGlareLimit(int limit) {
        argument(in(limit, 1, 14));
        change();
        int previous = now.glare;
        now.glare = limit;
        return previous;
    }

    public int setGloomLimit(int limit) {
        argument(in(limit, 0, 13));
        change();
        int previous = now.gloom;
        now.gloom = limit;
        return previous;
    }

    public int setTideLimit(int limit) {
        argument(in(limit, 0, 7));
        change();
        int previous = now.tide;
        now.tide = limit;
        return previous;
    }

    public int endNights(int count) {
        argument(in(count, 1, 60));
        state(now.night + count <= 999);
        change();
        int before = now.in('a').size();
        for (int i = 0; i < count; i++) {
            now.endNight();
        }
        return now.in('a').size() - before;
    }

    public int undo() {
        state(!undoable.isEmpty());
        now = undoable.removeLast();
        return undoable.size();
    }

    public int saveSnapshot(int slot) {
        index(in(slot, 0, 1));
        slots[slot] = now.copy();
        return now.night;
    }

    public int restoreSnapshot(int slot) {
        index(in(slot, 0, 1));
        element(slots[slot] != null);
        change();
        now = slots[slot].copy();
        return now.night;
    }

    public int writeComplaints(int person) {
        argument(in(person, 0, 99));
        StringBuilder text = new StringBuilder();
        now.complaints.stream().filter(c -> c.person == person)
                .forEach(c -> text.append(c.number).append(':').append(c.state).append('\n'));
        written = text.toString();
        return written.length();
    }

    public int writtenByte(int index) {
        index(in(index, 0, written.length() - 1));
        return written.charAt(index);
    }
}
