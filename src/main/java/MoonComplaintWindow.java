import java.util.NoSuchElementException;

/** The window of an office at which people complain about the moon. */
public final class MoonComplaintWindow {
    /** The sorts of complaints. */
    public static final int GLARE = 0, GLOOM = 1, TIDE = 2, FACE = 3;

    private static final String FIRST_TEXT =
            "moon 8 2 6;clouds 0 3 9;clerk 3 20;clerk 7 5;complaint 4 glare 5;complaint 4 gloom 2;complaint 9 tide 6;complaint 30 face 9;";

    private static final int ALL_SORTS = 1 << GLARE | 1 << GLOOM | 1 << TIDE | 1 << FACE;
    private static final int MAX_BYTES = 600;
    private static final int APPENDED_BYTES = 20;
    private static final int MAX_CLOUDS = 10;
    private static final int MAX_CLERKS = 5;
    private static final int MAX_COMPLAINTS = 24;
    private static final int MAX_UNDO = 8;
    private static final int SLOTS = 2;
    private static final int LAST_NIGHT = 999;
    private static final int LAST_ASKED_NIGHT = 2000;
    private static final int SEARCHED_NIGHTS = 280;
    private static final int MONTH = 28;
    private static final int GIVE_UP_AGE = 56;
    private static final int MOST_ENDED_NIGHTS = 60;
    private static final int MAX_PERSON = 99;
    private static final int MAX_ANGER = 9;
    private static final int MAX_SKILL = 9;
    private static final int MAX_OIL = 99;
    private static final int MAX_CLOUD = 9;
    private static final int NONE = -1;

    private final Loader loader = new Loader();
    private final Office office = new Office();
    // Predictions are worked out here, so that the office stays as it is.
    private final Office trial = new Office();
    private final History history = new History();
    private final Snapshots snapshots = new Snapshots();
    private final Page page = new Page();

    public MoonComplaintWindow() {
        for (int i = 0; i < FIRST_TEXT.length(); i++) {
            loader.input.put(FIRST_TEXT.charAt(i));
        }
        loader.read();
        office.copyFrom(loader.draft);
    }

    // ---- input

    public int append(int a, int b, int c, int d, int e) throws IllegalStateException {
        Input input = loader.input;
        if (input.length > MAX_BYTES - APPENDED_BYTES) {
            throw new IllegalStateException("the input buffer is full");
        }
        input.putFour(a);
        input.putFour(b);
        input.putFour(c);
        input.putFour(d);
        input.putFour(e);
        return input.length;
    }

    public int shorten(int length) throws IllegalArgumentException {
        if (length < 0 || length > loader.input.length) {
            throw new IllegalArgumentException("not a length of a beginning of the buffer");
        }
        loader.input.length = length;
        return length;
    }

    public int load() throws IllegalArgumentException {
        loader.read();
        if (loader.failed) {
            throw new IllegalArgumentException("the text has an error");
        }
        office.copyFrom(loader.draft);
        history.forget();
        snapshots.forget();
        return office.pile.total;
    }

    public boolean hasError() {
        return loader.failed;
    }

    public int errorOffset() throws NoSuchElementException {
        if (!loader.failed) {
            throw new NoSuchElementException("no error");
        }
        return loader.errorOffset;
    }

    // ---- the moon

    public int night() {
        return office.night;
    }

    public int lightOf(int night) throws IllegalArgumentException {
        checkNight(night);
        return Sky.lightIn(night);
    }

    public int tideOf(int night) throws IllegalArgumentException {
        checkNight(night);
        return Sky.tideIn(night);
    }

    public int cloudOf(int night) throws IllegalArgumentException {
        checkNight(night);
        return office.sky.cloudIn(night);
    }

    public int visibleLight(int night) throws IllegalArgumentException {
        checkNight(night);
        return office.sky.visibleIn(night);
    }

    public int glareLimit() {
        return office.sky.glareLimit;
    }

    public int gloomLimit() {
        return office.sky.gloomLimit;
    }

    public int tideLimit() {
        return office.sky.tideLimit;
    }

    public int cloudCount() {
        return office.sky.total;
    }

    public boolean isJustified(int sort, int night) throws IllegalArgumentException {
        checkSort(sort);
        checkNight(night);
        return office.sky.justifies(sort, night);
    }

    public int nextJustified(int sort) throws IllegalArgumentException, NoSuchElementException {
        checkSort(sort);
        for (int night = office.night; night < office.night + SEARCHED_NIGHTS; night++) {
            if (office.sky.justifies(sort, night)) {
                return night;
            }
        }
        throw new NoSuchElementException("justified in no night to come");
    }

    public int justifiedNights(int sort) throws IllegalArgumentException {
        checkSort(sort);
        return office.sky.countJustified(sort, office.night);
    }

    public int likeliestSort() {
        int likeliest = GLARE;
        int most = office.sky.countJustified(GLARE, office.night);
        for (int sort = GLOOM; sort <= FACE; sort++) {
            int nights = office.sky.countJustified(sort, office.night);
            if (nights > most) {
                most = nights;
                likeliest = sort;
            }
        }
        return likeliest;
    }

    // ---- complaints

    public int complaintCount() {
        return office.pile.total;
    }

    public int personOf(int complaint) throws IndexOutOfBoundsException {
        checkComplaint(complaint);
        return office.pile.persons[complaint];
    }

    public int sortOf(int complaint) throws IndexOutOfBoundsException {
        checkComplaint(complaint);
        return office.pile.sorts[complaint];
    }

    public int angerOf(int complaint) throws IndexOutOfBoundsException {
        checkComplaint(complaint);
        return office.pile.angers[complaint];
    }

    public int filedIn(int complaint) throws IndexOutOfBoundsException {
        checkComplaint(complaint);
        return office.pile.filed[complaint];
    }

    public boolean isWaiting(int complaint) throws IndexOutOfBoundsException {
        checkComplaint(complaint);
        return office.pile.states[complaint] == Pile.WAITING;
    }

    public boolean isAnswered(int complaint) throws IndexOutOfBoundsException {
        checkComplaint(complaint);
        return office.pile.states[complaint] == Pile.ANSWERED;
    }

    public boolean isDismissed(int complaint) throws IndexOutOfBoundsException {
        checkComplaint(complaint);
        return office.pile.states[complaint] == Pile.DISMISSED;
    }

    public boolean isGivenUp(int complaint) throws IndexOutOfBoundsException {
        checkComplaint(complaint);
        return office.pile.states[complaint] == Pile.GIVEN_UP;
    }

    public int closedIn(int complaint) throws IndexOutOfBoundsException, NoSuchElementException {
        checkComplaint(complaint);
        if (office.pile.states[complaint] == Pile.WAITING) {
            throw new NoSuchElementException("the complaint is waiting");
        }
        return office.pile.closed[complaint];
    }

    public int clerkOf(int complaint) throws IndexOutOfBoundsException, NoSuchElementException {
        checkComplaint(complaint);
        int clerk = office.pile.clerks[complaint];
        if (clerk == NONE) {
            throw new NoSuchElementException("no clerk closed the complaint");
        }
        return clerk;
    }

    public int waitingOf(int person, int sort) throws IllegalArgumentException, NoSuchElementException {
        checkRange(person, 0, MAX_PERSON);
        checkSort(sort);
        int complaint = office.pile.findWaiting(person, sort);
        if (complaint == NONE) {
            throw new NoSuchElementException("no such complaint is waiting");
        }
        return complaint;
    }

    public int waitingCount() {
        return office.pile.countInState(Pile.WAITING);
    }

    public int answeredCount() {
        return office.pile.countInState(Pile.ANSWERED);
    }

    public int dismissedCount() {
        return office.pile.countInState(Pile.DISMISSED);
    }

    public int givenUpCount() {
        return office.pile.countInState(Pile.GIVEN_UP);
    }

    public int oldest() throws NoSuchElementException {
        int complaint = office.pile.firstFiled(office.night);
        if (complaint == NONE) {
            throw new NoSuchElementException("no complaint is waiting");
        }
        return complaint;
    }

    public int angriest() throws NoSuchElementException {
        int complaint = office.pile.withMostAnger(ALL_SORTS);
        if (complaint == NONE) {
            throw new NoSuchElementException("no complaint is waiting");
        }
        return complaint;
    }

    public int complaintsOf(int person) throws IllegalArgumentException {
        checkRange(person, 0, MAX_PERSON);
        return office.pile.countOfPerson(person);
    }

    // ---- clerks and totals

    public int clerkCount() {
        return office.staff.total;
    }

    public int darkestClerk() throws NoSuchElementException {
        int clerk = office.staff.withLeastOil();
        if (clerk == NONE) {
            throw new NoSuchElementException("there are no clerks");
        }
        return clerk;
    }

    public int skillOf(int clerk) throws IndexOutOfBoundsException {
        checkClerk(clerk);
        return office.staff.skills[clerk];
    }

    public int oilOf(int clerk) throws IndexOutOfBoundsException {
        checkClerk(clerk);
        return office.staff.oils[clerk];
    }

    public int answeredBy(int clerk) throws IndexOutOfBoundsException {
        checkClerk(clerk);
        return office.pile.countAnsweredBy(clerk);
    }

    public int oilCost() {
        return office.sky.costIn(office.night);
    }

    public int oilUsed() {
        return office.staff.oilUsed;
    }

    public int comfort() {
        return office.pile.sumAnsweredAnger();
    }

    public double meanWait() {
        int answered = office.pile.countInState(Pile.ANSWERED);
        if (answered == 0) {
            return 0.0;
        }
        return (double) office.pile.sumAnsweredWait() / (double) answered;
    }

    public float answeredShare() {
        int closed = office.pile.total - office.pile.countInState(Pile.WAITING);
        if (closed == 0) {
            return 0.0f;
        }
        return (float) office.pile.countInState(Pile.ANSWERED) / (float) closed;
    }

    // ---- predictions

    public int answersTonight() {
        trial.copyFrom(office);
        return trial.endOneNight();
    }

    public int nightsToClose(int complaint) throws IndexOutOfBoundsException, IllegalStateException {
        checkComplaint(complaint);
        checkWaiting(complaint);
        return tryUntilClosed(complaint);
    }

    public boolean willBeAnswered(int complaint) throws IndexOutOfBoundsException, IllegalStateException {
        checkComplaint(complaint);
        checkWaiting(complaint);
        tryUntilClosed(complaint);
        return trial.pile.states[complaint] == Pile.ANSWERED;
    }

    // ---- changes

    public int fileComplaint(int person, int sort, int anger)
            throws IllegalArgumentException, IllegalStateException {
        checkRange(person, 0, MAX_PERSON);
        checkSort(sort);
        checkRange(anger, 1, MAX_ANGER);
        if (office.pile.total >= MAX_COMPLAINTS) {
            throw new IllegalStateException("there are as many complaints as there may be");
        }
        if (office.pile.findWaiting(person, sort) != NONE) {
            throw new IllegalStateException("the person has a waiting complaint of this sort");
        }
        history.push(office);
        office.pile.add(person, sort, anger, office.night);
        return office.pile.total - 1;
    }

    public int giveUp(int complaint) throws IndexOutOfBoundsException, IllegalStateException {
        checkComplaint(complaint);
        checkWaiting(complaint);
        history.push(office);
        office.pile.close(complaint, Pile.GIVEN_UP, office.night, NONE);
        return office.night - office.pile.filed[complaint];
    }

    public int addClerk(int skill, int oil) throws IllegalArgumentException, IllegalStateException {
        checkRange(skill, 1, MAX_SKILL);
        checkRange(oil, 0, MAX_OIL);
        if (office.staff.total >= MAX_CLERKS) {
            throw new IllegalStateException("there are as many clerks as there may be");
        }
        history.push(office);
        office.staff.add(skill, oil);
        return office.staff.total - 1;
    }

    public int refill(int clerk, int drops) throws IndexOutOfBoundsException, IllegalArgumentException {
        checkClerk(clerk);
        checkRange(drops, 1, MAX_OIL);
        history.push(office);
        office.staff.oils[clerk] = Math.min(MAX_OIL, office.staff.oils[clerk] + drops);
        return office.staff.oils[clerk];
    }

    public int setCloud(int index, int cloud) throws IndexOutOfBoundsException, IllegalArgumentException {
        if (!office.sky.hasCloud(index)) {
            throw new IndexOutOfBoundsException("no such cloud");
        }
        checkRange(cloud, 0, MAX_CLOUD);
        history.push(office);
        int previous = office.sky.clouds[index];
        office.sky.clouds[index] = cloud;
        return previous;
    }

    public int setGlareLimit(int limit) throws IllegalArgumentException {
        checkRange(limit, Sky.LEAST_GLARE_LIMIT, Sky.MOST_GLARE_LIMIT);
        history.push(office);
        int previous = office.sky.glareLimit;
        office.sky.glareLimit = limit;
        return previous;
    }

    public int setGloomLimit(int limit) throws IllegalArgumentException {
        checkRange(limit, 0, Sky.MOST_GLOOM_LIMIT);
        history.push(office);
        int previous = office.sky.gloomLimit;
        office.sky.gloomLimit = limit;
        return previous;
    }

    public int setTideLimit(int limit) throws IllegalArgumentException {
        checkRange(limit, 0, Sky.MOST_TIDE_LIMIT);
        history.push(office);
        int previous = office.sky.tideLimit;
        office.sky.tideLimit = limit;
        return previous;
    }

    public int endNights(int count) throws IllegalArgumentException, IllegalStateException {
        checkRange(count, 1, MOST_ENDED_NIGHTS);
        if (office.night + count > LAST_NIGHT) {
            throw new IllegalStateException("the night would exceed the last one");
        }
        history.push(office);
        int answered = 0;
        for (int ended = 0; ended < count; ended++) {
            answered += office.endOneNight();
        }
        return answered;
    }

    public int undo() throws IllegalStateException {
        if (history.size == 0) {
            throw new IllegalStateException("nothing to undo");
        }
        history.pop(office);
        return history.size;
    }

    public int saveSnapshot(int slot) throws IndexOutOfBoundsException {
        checkSlot(slot);
        snapshots.put(slot, office);
        return office.night;
    }

    public int restoreSnapshot(int slot) throws IndexOutOfBoundsException, NoSuchElementException {
        checkSlot(slot);
        if (!snapshots.taken[slot]) {
            throw new NoSuchElementException("the slot is empty");
        }
        history.push(office);
        office.copyFrom(snapshots.offices[slot]);
        return office.night;
    }

    // ---- writing

    public int writeComplaints(int person) throws IllegalArgumentException {
        checkRange(person, 0, MAX_PERSON);
        page.length = 0;
        for (int complaint = 0; complaint < office.pile.total; complaint++) {
            if (office.pile.persons[complaint] == person) {
                page.writeLine(complaint, office.pile.states[complaint]);
            }
        }
        return page.length;
    }

    public int writtenByte(int index) throws IndexOutOfBoundsException {
        if (index < 0 || index >= page.length) {
            throw new IndexOutOfBoundsException("no such byte");
        }
        return page.bytes[index];
    }

    // ---- what several calls ask

    private static void checkRange(int value, int least, int most) {
        if (value < least || value > most) {
            throw new IllegalArgumentException("out of range");
        }
    }

    private static void checkNight(int night) {
        checkRange(night, 0, LAST_ASKED_NIGHT);
    }

    private static void checkSort(int sort) {
        checkRange(sort, GLARE, FACE);
    }

    private static void checkSlot(int slot) {
        if (slot < 0 || slot >= SLOTS) {
            throw new IndexOutOfBoundsException("no such slot");
        }
    }

    private void checkComplaint(int complaint) {
        if (!office.pile.has(complaint)) {
            throw new IndexOutOfBoundsException("no such complaint");
        }
    }

    private void checkClerk(int clerk) {
        if (!office.staff.has(clerk)) {
            throw new IndexOutOfBoundsException("no such clerk");
        }
    }

    private void checkWaiting(int complaint) {
        if (office.pile.states[complaint] != Pile.WAITING) {
            throw new IllegalStateException("the complaint is not waiting");
        }
    }

    /** Ends nights on trial until this waiting complaint is closed, and counts them. */
    private int tryUntilClosed(int complaint) {
        trial.copyFrom(office);
        int nights = 0;
        // A waiting complaint is given up at the latest when it reaches this age.
        while (nights < GIVE_UP_AGE && trial.pile.states[complaint] == Pile.WAITING) {
            trial.endOneNight();
            nights++;
        }
        return nights;
    }

    /** The clouds, and the limits that tell which complaints the moon justifies. */
    private static final class Sky {
        static final int LEAST_GLARE_LIMIT = 1;
        static final int MOST_GLARE_LIMIT = 14;
        static final int MOST_GLOOM_LIMIT = 13;
        static final int MOST_TIDE_LIMIT = 7;
        static final int FACE_LIGHT = 4;
        static final int FACE_CLOUD = 2;
        static final int DEAREST_COST = 6;

        int glareLimit;
        int gloomLimit;
        int tideLimit;
        int total;
        final int[] clouds = new int[MAX_CLOUDS];

        static int lightIn(int night) {
            return 14 - Math.abs(14 - night % MONTH);
        }

        static int tideIn(int night) {
            return Math.abs(7 - night % MONTH % 14);
        }

        boolean hasCloud(int index) {
            return index >= 0 && index < total;
        }

        void addCloud(int cloud) {
            if (total < MAX_CLOUDS) {
                clouds[total] = cloud;
                total++;
            }
        }

        int cloudIn(int night) {
            return total > 0 && night >= 0 ? clouds[night % total] : 0;
        }

        int visibleIn(int night) {
            return lightIn(night) * (10 - cloudIn(night)) / 10;
        }

        int costIn(int night) {
            return DEAREST_COST - visibleIn(night) / 3;
        }

        boolean justifies(int sort, int night) {
            switch (sort) {
                case GLARE:
                    return visibleIn(night) >= glareLimit;
                case GLOOM:
                    return visibleIn(night) <= gloomLimit;
                case TIDE:
                    return tideIn(night) >= tideLimit;
                default:
                    return lightIn(night) >= FACE_LIGHT && cloudIn(night) <= FACE_CLOUD;
            }
        }

        /** All sorts that are justified in this night, a bit for each. */
        int justifiedSorts(int night) {
            int sorts = 0;
            for (int sort = GLARE; sort <= FACE; sort++) {
                if (justifies(sort, night)) {
                    sorts |= 1 << sort;
                }
            }
            return sorts;
        }

        int countJustified(int sort, int firstNight) {
            int count = 0;
            for (int night = firstNight; night < firstNight + MONTH; night++) {
                if (justifies(sort, night)) {
                    count++;
                }
            }
            return count;
        }

        void copyFrom(Sky other) {
            glareLimit = other.glareLimit;
            gloomLimit = other.gloomLimit;
            tideLimit = other.tideLimit;
            total = other.total;
            System.arraycopy(other.clouds, 0, clouds, 0, MAX_CLOUDS);
        }
    }

    /** All complaints that were filed, a row for each of their properties. */
    private static final class Pile {
        static final int WAITING = 0, ANSWERED = 1, DISMISSED = 2, GIVEN_UP = 3;
        static final int ANGRIER_EVERY = 7;
        static final int DISMISSED_FROM_AGE = 14;

        int total;
        final int[] persons = new int[MAX_COMPLAINTS];
        final int[] sorts = new int[MAX_COMPLAINTS];
        final int[] angers = new int[MAX_COMPLAINTS];
        final int[] filed = new int[MAX_COMPLAINTS];
        final int[] states = new int[MAX_COMPLAINTS];
        final int[] closed = new int[MAX_COMPLAINTS];
        final int[] clerks = new int[MAX_COMPLAINTS];

        boolean has(int complaint) {
            return complaint >= 0 && complaint < total;
        }

        void add(int person, int sort, int anger, int night) {
            if (total < MAX_COMPLAINTS) {
                persons[total] = person;
                sorts[total] = sort;
                angers[total] = anger;
                filed[total] = night;
                states[total] = WAITING;
                closed[total] = NONE;
                clerks[total] = NONE;
                total++;
            }
        }

        void close(int complaint, int state, int night, int clerk) {
            if (has(complaint)) {
                states[complaint] = state;
                closed[complaint] = night;
                clerks[complaint] = clerk;
            }
        }

        int findWaiting(int person, int sort) {
            for (int i = 0; i < total; i++) {
                if (states[i] == WAITING && persons[i] == person && sorts[i] == sort) {
                    return i;
                }
            }
            return NONE;
        }

        /** The waiting complaint that was filed first, but not behind this night. */
        int firstFiled(int lastNight) {
            int found = NONE;
            int earliest = lastNight + 1;
            for (int i = 0; i < total; i++) {
                if (states[i] == WAITING && filed[i] < earliest) {
                    earliest = filed[i];
                    found = i;
                }
            }
            return found;
        }

        int oldestToDismiss(int night) {
            return firstFiled(night - DISMISSED_FROM_AGE);
        }

        /** The angriest waiting complaint of the sorts whose bits are set. */
        int withMostAnger(int sortBits) {
            int found = NONE;
            int most = 0;
            for (int i = 0; i < total; i++) {
                boolean isMeant = states[i] == WAITING && (sortBits >> sorts[i] & 1) == 1;
                if (isMeant && angers[i] > most) {
                    most = angers[i];
                    found = i;
                }
            }
            return found;
        }

        void growOlder(int nextNight) {
            for (int i = 0; i < total; i++) {
                if (states[i] == WAITING) {
                    int age = nextNight - filed[i];
                    if (age % ANGRIER_EVERY == 0) {
                        angers[i] = Math.min(MAX_ANGER, angers[i] + 1);
                    }
                    if (age == GIVE_UP_AGE) {
                        close(i, GIVEN_UP, nextNight, NONE);
                    }
                }
            }
        }

        int countInState(int state) {
            int count = 0;
            for (int i = 0; i < total; i++) {
                if (states[i] == state) {
                    count++;
                }
            }
            return count;
        }

        int countOfPerson(int person) {
            int count = 0;
            for (int i = 0; i < total; i++) {
                if (persons[i] == person) {
                    count++;
                }
            }
            return count;
        }

        int countAnsweredBy(int clerk) {
            int count = 0;
            for (int i = 0; i < total; i++) {
                if (states[i] == ANSWERED && clerks[i] == clerk) {
                    count++;
                }
            }
            return count;
        }

        int sumAnsweredAnger() {
            int sum = 0;
            for (int i = 0; i < total; i++) {
                if (states[i] == ANSWERED) {
                    sum += angers[i];
                }
            }
            return sum;
        }

        int sumAnsweredWait() {
            int sum = 0;
            for (int i = 0; i < total; i++) {
                if (states[i] == ANSWERED) {
                    sum += closed[i] - filed[i];
                }
            }
            return sum;
        }

        void copyFrom(Pile other) {
            total = other.total;
            System.arraycopy(other.persons, 0, persons, 0, MAX_COMPLAINTS);
            System.arraycopy(other.sorts, 0, sorts, 0, MAX_COMPLAINTS);
            System.arraycopy(other.angers, 0, angers, 0, MAX_COMPLAINTS);
            System.arraycopy(other.filed, 0, filed, 0, MAX_COMPLAINTS);
            System.arraycopy(other.states, 0, states, 0, MAX_COMPLAINTS);
            System.arraycopy(other.closed, 0, closed, 0, MAX_COMPLAINTS);
            System.arraycopy(other.clerks, 0, clerks, 0, MAX_COMPLAINTS);
        }
    }

    /** The clerks and their lanterns. */
    private static final class Staff {
        int total;
        int oilUsed;
        final int[] skills = new int[MAX_CLERKS];
        final int[] oils = new int[MAX_CLERKS];

        boolean has(int clerk) {
            return clerk >= 0 && clerk < total;
        }

        void add(int skill, int oil) {
            if (total < MAX_CLERKS) {
                skills[total] = skill;
                oils[total] = oil;
                total++;
            }
        }

        void burn(int clerk, int drops) {
            if (has(clerk)) {
                oils[clerk] -= drops;
                oilUsed += drops;
            }
        }

        int withLeastOil() {
            int found = NONE;
            int least = MAX_OIL + 1;
            for (int i = 0; i < total; i++) {
                if (oils[i] < least) {
                    least = oils[i];
                    found = i;
                }
            }
            return found;
        }

        void copyFrom(Staff other) {
            total = other.total;
            oilUsed = other.oilUsed;
            System.arraycopy(other.skills, 0, skills, 0, MAX_CLERKS);
            System.arraycopy(other.oils, 0, oils, 0, MAX_CLERKS);
        }
    }

    /** Everything that a change may alter and that undoing it brings back. */
    private static final class Office {
        int night;
        final Sky sky = new Sky();
        final Staff staff = new Staff();
        final Pile pile = new Pile();

        void clear() {
            night = 0;
            sky.total = 0;
            staff.total = 0;
            staff.oilUsed = 0;
            pile.total = 0;
        }

        /** Ends the night and tells how many complaints were answered. */
        int endOneNight() {
            int justified = sky.justifiedSorts(night);
            int cost = sky.costIn(night);
            int answered = 0;
            for (int clerk = 0; clerk < staff.total; clerk++) {
                answered += workOf(clerk, justified, cost);
            }
            night++;
            pile.growOlder(night);
            return answered;
        }

        private int workOf(int clerk, int justified, int cost) {
            int most = 1 + staff.skills[clerk] / 3;
            int answered = 0;
            for (int handled = 0; handled < most && staff.oils[clerk] >= cost; handled++) {
                int complaint = pile.withMostAnger(justified);
                if (complaint != NONE) {
                    pile.close(complaint, Pile.ANSWERED, night, clerk);
                    answered++;
                } else {
                    complaint = pile.oldestToDismiss(night);
                    if (complaint == NONE) {
                        break;
                    }
                    pile.close(complaint, Pile.DISMISSED, night, clerk);
                }
                staff.burn(clerk, cost);
            }
            return answered;
        }

        void copyFrom(Office other) {
            night = other.night;
            sky.copyFrom(other.sky);
            staff.copyFrom(other.staff);
            pile.copyFrom(other.pile);
        }
    }

    /** The office as it was before each of the latest changes, in a ring. */
    private static final class History {
        int size;
        private int next;
        private final Office[] kept = new Office[MAX_UNDO];

        History() {
            for (int i = 0; i < MAX_UNDO; i++) {
                kept[i] = new Office();
            }
        }

        void push(Office office) {
            kept[next].copyFrom(office);
            next = (next + 1) % MAX_UNDO;
            size = Math.min(MAX_UNDO, size + 1);
        }

        void pop(Office office) {
            if (size > 0) {
                next = (next + MAX_UNDO - 1) % MAX_UNDO;
                office.copyFrom(kept[next]);
                size--;
            }
        }

        void forget() {
            size = 0;
        }
    }

    /** The snapshot slots. */
    private static final class Snapshots {
        final boolean[] taken = new boolean[SLOTS];
        final Office[] offices = new Office[SLOTS];

        Snapshots() {
            for (int i = 0; i < SLOTS; i++) {
                offices[i] = new Office();
            }
        }

        void put(int slot, Office office) {
            if (slot >= 0 && slot < SLOTS) {
                offices[slot].copyFrom(office);
                taken[slot] = true;
            }
        }

        void forget() {
            for (int i = 0; i < SLOTS; i++) {
                taken[i] = false;
            }
        }
    }

    /** The input buffer, and that one of its tokens that is looked at. */
    private static final class Input {
        static final int END = 0, WORD = 1, NUMBER = 2, SEMICOLON = 3, INVALID = 4;
        static final int LONGEST_NUMBER = 2;

        int length;
        int kind;
        int start;
        private int end;
        private final int[] bytes = new int[MAX_BYTES];

        void put(int value) {
            if (length < MAX_BYTES) {
                bytes[length] = value & 255;
                length++;
            }
        }

        void putFour(int value) {
            put(value >>> 24);
            put(value >>> 16);
            put(value >>> 8);
            put(value);
        }

        /** The byte at this offset, or NONE behind the end. */
        private int byteAt(int offset) {
            return offset >= 0 && offset < length ? bytes[offset] : NONE;
        }

        void rewind() {
            end = 0;
            advance();
        }

        void advance() {
            start = end;
            while (start < length && isBlank(byteAt(start))) {
                start++;
            }
            end = start;
            int first = byteAt(start);
            if (first == NONE) {
                kind = END;
            } else if (isLetter(first)) {
                kind = WORD;
                passLetters();
            } else if (isDigit(first)) {
                passDigits();
                kind = end - start <= LONGEST_NUMBER ? NUMBER : INVALID;
            } else {
                kind = first == ';' ? SEMICOLON : INVALID;
                end++;
            }
        }

        private void passLetters() {
            while (end < length && isLetter(byteAt(end))) {
                end++;
            }
        }

        private void passDigits() {
            while (end < length && isDigit(byteAt(end))) {
                end++;
            }
        }

        boolean isWord(String word) {
            if (kind != WORD || end - start != word.length()) {
                return false;
            }
            for (int i = 0; i < word.length(); i++) {
                if (byteAt(start + i) != word.charAt(i)) {
                    return false;
                }
            }
            return true;
        }

        /** The value of the present number, or NONE if the present token is no number. */
        int number() {
            if (kind != NUMBER) {
                return NONE;
            }
            int value = 0;
            for (int i = start; i < end; i++) {
                value = value * 10 + byteAt(i) - '0';
            }
            return value;
        }

        private static boolean isBlank(int value) {
            return value == ' ' || value == '\n';
        }

        private static boolean isLetter(int value) {
            return value >= 'a' && value <= 'z';
        }

        private static boolean isDigit(int value) {
            return value >= '0' && value <= '9';
        }
    }

    /**
     * Reads the input as a text, rule by rule of the grammar. Behind the first token that is not allowed
     * nothing moves on, so that the rules need not ask each other how they went.
     */
    private static final class Loader {
        boolean failed;
        int errorOffset;
        final Input input = new Input();
        // An office apart from the window's, which stays as it is if the text has an error.
        final Office draft = new Office();

        /** Drafts the office that the text tells, and empties the input. */
        void read() {
            failed = false;
            errorOffset = NONE;
            input.rewind();
            draft.clear();
            readMoon(draft.sky);
            readClouds(draft.sky);
            readClerks(draft.staff);
            readComplaints(draft.pile);
            if (input.kind != Input.END) {
                refuse();
            }
            input.length = 0;
        }

        private void readMoon(Sky sky) {
            takeWord("moon");
            sky.glareLimit = takeNumber(Sky.LEAST_GLARE_LIMIT, Sky.MOST_GLARE_LIMIT);
            sky.gloomLimit = takeNumber(0, Sky.MOST_GLOOM_LIMIT);
            sky.tideLimit = takeNumber(0, Sky.MOST_TIDE_LIMIT);
            takeSemicolon();
        }

        private void readClouds(Sky sky) {
            takeWord("clouds");
            sky.addCloud(takeNumber(0, MAX_CLOUD));
            for (int i = 1; i < MAX_CLOUDS && !failed && input.kind == Input.NUMBER; i++) {
                sky.addCloud(takeNumber(0, MAX_CLOUD));
            }
            takeSemicolon();
        }

        private void readClerks(Staff staff) {
            for (int i = 0; i < MAX_CLERKS && !failed && input.isWord("clerk"); i++) {
                takeWord("clerk");
                int skill = takeNumber(1, MAX_SKILL);
                int oil = takeNumber(0, MAX_OIL);
                takeSemicolon();
                staff.add(skill, oil);
            }
        }

        private void readComplaints(Pile pile) {
            for (int i = 0; i < MAX_COMPLAINTS && !failed && input.isWord("complaint"); i++) {
                takeWord("complaint");
                int person = takeNumber(0, MAX_PERSON);
                int sort = takeSort(pile, person);
                int anger = takeNumber(1, MAX_ANGER);
                takeSemicolon();
                pile.add(person, sort, anger, 0);
            }
        }

        private void takeWord(String word) {
            if (!failed && input.isWord(word)) {
                input.advance();
            } else {
                refuse();
            }
        }

        private void takeSemicolon() {
            if (!failed && input.kind == Input.SEMICOLON) {
                input.advance();
            } else {
                refuse();
            }
        }

        private int takeNumber(int least, int most) {
            int number = input.number();
            if (failed || number < least || number > most) {
                refuse();
                return least;
            }
            input.advance();
            return number;
        }

        private int takeSort(Pile pile, int person) {
            int sort = sortOfWord();
            if (failed || sort == NONE || pile.findWaiting(person, sort) != NONE) {
                refuse();
                return GLARE;
            }
            input.advance();
            return sort;
        }

        private int sortOfWord() {
            if (input.isWord("glare")) {
                return GLARE;
            }
            if (input.isWord("gloom")) {
                return GLOOM;
            }
            if (input.isWord("tide")) {
                return TIDE;
            }
            return input.isWord("face") ? FACE : NONE;
        }

        private void refuse() {
            if (!failed) {
                failed = true;
                errorOffset = input.start;
            }
        }
    }

    /** The written text. */
    private static final class Page {
        static final int LONGEST_LINE = 5;

        int length;
        final int[] bytes = new int[MAX_COMPLAINTS * LONGEST_LINE];

        void writeLine(int complaint, int state) {
            if (complaint >= 10) {
                put('0' + complaint / 10);
            }
            put('0' + complaint % 10);
            put(':');
            put(letterOf(state));
            put('\n');
        }

        private void put(int value) {
            if (length < bytes.length) {
                bytes[length] = value;
                length++;
            }
        }

        private static char letterOf(int state) {
            switch (state) {
                case Pile.WAITING:
                    return 'w';
                case Pile.ANSWERED:
                    return 'a';
                case Pile.DISMISSED:
                    return 'd';
                default:
                    return 'g';
            }
        }
    }
}
