import java.util.NoSuchElementException;

/** Plans thesis committees and their defences; the document DOC.md tells what each call promises. */
public final class CommitteePlanner {

    private static final int PERSONS = 14;
    private static final int THESES = 8;
    private static final int RANKS = 3;
    private static final int FIELDS = 6;
    private static final int DEPARTMENTS = 4;
    private static final int MOST_COMMITTEES = 6;
    private static final int KINDS = 3;
    private static final int ROOMS = 3;
    private static final int HOURS = 8;
    private static final int LAST_FIRST_HOUR = 6;
    private static final int LAST_DAY = 400;
    private static final int MOST_DAYS = 99;
    private static final int CHANGES = 6;
    private static final int INPUT = 60;

    private static final int PROFESSOR = 0;
    private static final int GUEST = 2;
    private static final int DEFENDED = 4;
    private static final int SPARE_MEMBERS = 2;
    private static final int TWO_HOURS = 3;
    private static final int ALL_HOURS = 255;
    private static final int NONE = -1;
    private static final int CANNOT = -1;
    private static final int DONE = 0;

    /** What a quorum counts: members, professors, guests, experts, strangers; a row for each kind. */
    private static final int QUORUM_NUMBERS = 5;
    private static final int[] QUORUMS = {3, 1, 0, 1, 0, 4, 2, 1, 2, 1, 5, 3, 1, 3, 2};

    /** The days from the deadlines of the stages 1 to 4 to the defence; a row for each kind. */
    private static final int[] DAYS_BEFORE = {21, 10, 5, 0, 28, 14, 7, 0, 42, 21, 14, 0};

    private final Plan plan;
    private final Plan saved;
    private final History history;
    private final Input input;
    private final Completion completion;
    private boolean hasSaved;
    private int keptReason;
    private int keptErrorPosition;

    public CommitteePlanner() {
        plan = new Plan();
        saved = new Plan();
        history = new History();
        input = new Input();
        completion = new Completion();
        keptReason = NONE;
        keptErrorPosition = NONE;
    }

    public int clear() {
        int persons = plan.personCount;
        plan.makeNew();
        history.forget();
        return persons;
    }

    // ---- persons

    public int addPerson(int rank, int fields, int department, int limit)
            throws IllegalArgumentException, IllegalStateException {
        if (!isBelow(rank, RANKS) || !isBelow(fields, 1 << FIELDS) || !isBelow(department, DEPARTMENTS)
                || limit < 1 || limit > MOST_COMMITTEES) {
            throw new IllegalArgumentException("a number of the person is out of range");
        }
        if (plan.personCount >= PERSONS) {
            throw new IllegalStateException("there are 14 persons");
        }
        history.remember(plan);
        return plan.enrol(rank, fields, department, limit);
    }

    public boolean setConflict(int person, int other, boolean isOn)
            throws IndexOutOfBoundsException, IllegalArgumentException {
        Person one = personOf(person);
        Person two = personOf(other);
        if (person == other) {
            throw new IllegalArgumentException("a person cannot be in conflict with itself");
        }
        history.remember(plan);
        boolean were = two.isIn(one.conflicts);
        one.markConflict(two, isOn);
        two.markConflict(one, isOn);
        return were;
    }

    public boolean setBusy(int person, int day, int hour, boolean isOn)
            throws IndexOutOfBoundsException, IllegalArgumentException {
        Person one = personOf(person);
        requireDayAndHour(day, hour, HOURS - 1);
        history.remember(plan);
        boolean was = one.isBusy(day, hour);
        if (was != isOn) {
            one.flipBusy(day, hour);
        }
        return was;
    }

    public int person(int person, int what) throws IndexOutOfBoundsException, IllegalArgumentException {
        Person one = personOf(person);
        switch (what) {
            case 0: return one.rank;
            case 1: return one.fields;
            case 2: return one.department;
            case 3: return one.limit;
            case 4: return one.conflicts;
            case 5: return plan.committeesOf(one, null);
            case 6: return plan.supervisedBy(one);
            case 7: return one.busyHours;
            default: throw new IllegalArgumentException("what is not 0 to 7");
        }
    }

    public boolean isFree(int person, int day, int hour)
            throws IndexOutOfBoundsException, IllegalArgumentException {
        Person one = personOf(person);
        requireDayAndHour(day, hour, LAST_FIRST_HOUR);
        return (plan.hoursTaken(one, day, null) & TWO_HOURS << hour) == 0;
    }

    public int freeDay(int person) throws IndexOutOfBoundsException, NoSuchElementException {
        int day = plan.firstFreeDay(personOf(person));
        if (day == NONE) {
            throw new NoSuchElementException("there is no free day");
        }
        return day;
    }

    // ---- theses and committees

    public int addThesis(int kind, int field, int department, int supervisor)
            throws IndexOutOfBoundsException, IllegalArgumentException, IllegalStateException {
        personOf(supervisor);
        if (!isBelow(kind, KINDS) || !isBelow(field, FIELDS) || !isBelow(department, DEPARTMENTS)) {
            throw new IllegalArgumentException("a number of the thesis is out of range");
        }
        if (plan.thesisCount >= THESES) {
            throw new IllegalStateException("there are 8 theses");
        }
        history.remember(plan);
        return plan.register(kind, field, department, supervisor);
    }

    public int thesis(int thesis, int what) throws IndexOutOfBoundsException, IllegalArgumentException {
        Thesis one = thesisOf(thesis);
        switch (what) {
            case 0: return one.kind;
            case 1: return one.field;
            case 2: return one.department;
            case 3: return one.supervisor;
            case 4: return one.stage;
            case 5: return one.members;
            case 6: return one.room;
            case 7: return one.day;
            case 8: return one.hour;
            case 9: return plan.placeInLine(one) == NONE ? 0 : 1;
            case 10: return one.mostMembers();
            default: throw new IllegalArgumentException("what is not 0 to 10");
        }
    }

    public int join(int thesis, int person) throws IndexOutOfBoundsException, UnsupportedOperationException {
        Thesis one = thesisOf(thesis);
        Person joiner = personOf(person);
        refuseFor(plan.reasonNotToJoin(one, one.members, joiner));
        history.remember(plan);
        one.members |= joiner.bit();
        return one.memberCount();
    }

    public int leave(int thesis, int person) throws IndexOutOfBoundsException, IllegalStateException {
        Thesis one = thesisOf(thesis);
        Person member = personOf(person);
        if (!plan.canLeave(one, member)) {
            throw new IllegalStateException("the person is not a member, or the thesis is defended");
        }
        history.remember(plan);
        one.members &= ~member.bit();
        plan.keepPlaceByQuorum(one);
        return one.memberCount();
    }

    public int replace(int thesis, int member, int person)
            throws IndexOutOfBoundsException, IllegalStateException, UnsupportedOperationException {
        Thesis one = thesisOf(thesis);
        Person leaver = personOf(member);
        Person joiner = personOf(person);
        requireMember(leaver, one);
        int others = one.members & ~leaver.bit();
        refuseFor(plan.reasonNotToJoin(one, others, joiner));
        history.remember(plan);
        one.members = others | joiner.bit();
        return plan.keepPlaceByQuorum(one) ? 1 : 0;
    }

    public int whyNotJoin(int thesis, int person) throws IndexOutOfBoundsException {
        Thesis one = thesisOf(thesis);
        return plan.reasonNotToJoin(one, one.members, personOf(person));
    }

    public int lacks(int thesis, int what) throws IndexOutOfBoundsException, IllegalArgumentException {
        Thesis one = thesisOf(thesis);
        if (!isBelow(what, QUORUM_NUMBERS)) {
            throw new IllegalArgumentException("what is not 0 to 4");
        }
        return plan.lackOf(one, what);
    }

    public int replacements(int thesis, int member) throws IndexOutOfBoundsException, IllegalStateException {
        Thesis one = thesisOf(thesis);
        Person leaver = personOf(member);
        requireMember(leaver, one);
        return plan.replacementsFor(one, leaver);
    }

    public int completion(int thesis) throws IndexOutOfBoundsException, NoSuchElementException {
        return completionOf(thesisOf(thesis));
    }

    public int complete(int thesis) throws IndexOutOfBoundsException, NoSuchElementException {
        Thesis one = thesisOf(thesis);
        int joiners = completionOf(one);
        history.remember(plan);
        one.members |= joiners;
        return Integer.bitCount(joiners);
    }

    public int reason() throws NoSuchElementException {
        if (keptReason == NONE) {
            throw new NoSuchElementException("no reason was kept");
        }
        return keptReason;
    }

    // ---- defences and deadlines

    public int place(int thesis, int room, int day, int hour)
            throws IndexOutOfBoundsException, IllegalArgumentException, UnsupportedOperationException {
        Thesis one = thesisOf(thesis);
        requireRoom(room);
        requireDayAndHour(day, hour, LAST_FIRST_HOUR);
        refuseFor(plan.reasonNotToPlace(one, room, day, hour));
        history.remember(plan);
        one.takePlace(room, day, hour);
        return one.nextDeadline();
    }

    public int takeBack(int thesis) throws IndexOutOfBoundsException, IllegalStateException {
        Thesis one = thesisOf(thesis);
        if (!one.isPlaced() || one.isDefended()) {
            throw new IllegalStateException("the defence is not placed, or the thesis is defended");
        }
        history.remember(plan);
        int day = one.day;
        one.losePlace();
        return day;
    }

    public int whyNotPlace(int thesis, int room, int day, int hour)
            throws IndexOutOfBoundsException, IllegalArgumentException {
        Thesis one = thesisOf(thesis);
        requireRoom(room);
        requireDayAndHour(day, hour, LAST_FIRST_HOUR);
        return plan.reasonNotToPlace(one, room, day, hour);
    }

    public int earliest(int thesis) throws IndexOutOfBoundsException, NoSuchElementException {
        int time = plan.earliestTime(thesisOf(thesis));
        if (time == NONE) {
            throw new NoSuchElementException("there is no time for the defence");
        }
        return time;
    }

    public int deadline(int thesis, int stage)
            throws IndexOutOfBoundsException, IllegalArgumentException, IllegalStateException {
        Thesis one = thesisOf(thesis);
        if (stage < 1 || stage > DEFENDED) {
            throw new IllegalArgumentException("the stage is not 1 to 4");
        }
        if (!one.isPlaced()) {
            throw new IllegalStateException("the defence is not placed");
        }
        return one.deadlineOf(stage);
    }

    public int goOn(int thesis) throws IndexOutOfBoundsException, IllegalStateException {
        Thesis one = thesisOf(thesis);
        if (!plan.canGoOn(one)) {
            throw new IllegalStateException("the thesis cannot go on now");
        }
        history.remember(plan);
        one.stage++;
        return one.stage;
    }

    public int mostUrgent() throws NoSuchElementException {
        int days = plan.daysToNextDeadline();
        if (days == NONE) {
            throw new NoSuchElementException("no defence is ahead");
        }
        return days;
    }

    public int inRoom(int room, int day, int hour)
            throws IndexOutOfBoundsException, IllegalArgumentException, NoSuchElementException {
        requireRoom(room);
        requireDayAndHour(day, hour, HOURS - 1);
        int thesis = plan.thesisInRoom(room, day, hour);
        if (thesis == NONE) {
            throw new NoSuchElementException("no defence takes the room then");
        }
        return thesis;
    }

    // ---- waiting, days and accounts

    public int await(int thesis) throws IndexOutOfBoundsException, IllegalStateException {
        Thesis one = thesisOf(thesis);
        if (one.isDefended() || one.isPlaced()) {
            throw new IllegalStateException("the thesis is defended or placed");
        }
        history.remember(plan);
        plan.queueUp(one);
        return plan.placeInLine(one);
    }

    public int serve() {
        history.remember(plan);
        return plan.serveLine();
    }

    public int waiting(int place) throws NoSuchElementException {
        if (!isBelow(place, plan.lineLength)) {
            throw new NoSuchElementException("there is no such place in the line");
        }
        return plan.line[place];
    }

    public int pass(int days) throws IllegalArgumentException, IllegalStateException {
        if (days < 1 || days > MOST_DAYS) {
            throw new IllegalArgumentException("the number of days is not 1 to 99");
        }
        if (!plan.canSpend(days)) {
            throw new IllegalStateException("there are no days behind day 400");
        }
        history.remember(plan);
        return plan.spend(days);
    }

    public int account(int account) throws IllegalArgumentException {
        switch (account) {
            case 0: return plan.personCount;
            case 1: return plan.thesisCount;
            case 2: return plan.placedCount();
            case 3: return plan.defendedCount();
            case 4: return plan.memberSum();
            case 5: return plan.quorumCount();
            case 6: return plan.lineLength;
            case 7: return plan.today;
            case 8: return plan.lostPlaces;
            case 9: return plan.conflictPairs();
            default: throw new IllegalArgumentException("the account is not 0 to 9");
        }
    }

    public double meanLoad() throws ArithmeticException {
        if (plan.personCount == 0) {
            throw new ArithmeticException("there are no persons");
        }
        return (double) plan.loadSum() / (double) plan.personCount;
    }

    // ---- texts, history and saving

    public int append(char character) throws IllegalArgumentException, IllegalStateException {
        if (character < 32 || character > 126) {
            throw new IllegalArgumentException("the character code is not 32 to 126");
        }
        if (!input.take(character)) {
            throw new IllegalStateException("the input has 60 characters");
        }
        return input.length;
    }

    public int read() throws IllegalArgumentException, IllegalStateException {
        int wrongAt = input.readOut();
        if (wrongAt != NONE) {
            keptErrorPosition = wrongAt;
            throw new IllegalArgumentException("the input is not a text");
        }
        history.prepare(plan);
        int outcome = DONE;
        for (int entry = 0; entry < input.entryCount && outcome == DONE; entry++) {
            outcome = plan.doEntry(input.cell(entry, 0), input.cell(entry, 1), input.cell(entry, 2),
                    input.cell(entry, 3), input.cell(entry, 4));
        }
        if (outcome != DONE) {
            history.giveBack(plan);
            if (outcome != CANNOT) {
                keptReason = outcome;
            }
            throw new IllegalStateException("an entry cannot be done");
        }
        history.keep();
        return input.entryCount;
    }

    public int errorPosition() throws NoSuchElementException {
        if (keptErrorPosition == NONE) {
            throw new NoSuchElementException("no error position was kept");
        }
        return keptErrorPosition;
    }

    public int undo() throws NoSuchElementException {
        if (history.count == 0) {
            throw new NoSuchElementException("no change is remembered");
        }
        history.takeBackLatest(plan);
        return history.count;
    }

    public int save() {
        saved.copyFrom(plan);
        hasSaved = true;
        return plan.thesisCount;
    }

    public int restore() throws IllegalStateException {
        if (!hasSaved) {
            throw new IllegalStateException("nothing was saved");
        }
        plan.copyFrom(saved);
        history.forget();
        return plan.thesisCount;
    }

    // ---- what the calls share

    private Person personOf(int number) throws IndexOutOfBoundsException {
        if (!isBelow(number, plan.personCount)) {
            throw new IndexOutOfBoundsException("there is no such person");
        }
        return plan.persons[number];
    }

    private Thesis thesisOf(int number) throws IndexOutOfBoundsException {
        if (!isBelow(number, plan.thesisCount)) {
            throw new IndexOutOfBoundsException("there is no such thesis");
        }
        return plan.theses[number];
    }

    private static void requireRoom(int room) throws IndexOutOfBoundsException {
        if (!isBelow(room, ROOMS)) {
            throw new IndexOutOfBoundsException("there is no such room");
        }
    }

    private static void requireDayAndHour(int day, int hour, int lastHour) throws IllegalArgumentException {
        if (!isDay(day) || hour < 0 || hour > lastHour) {
            throw new IllegalArgumentException("the day or the hour is out of range");
        }
    }

    private static void requireMember(Person person, Thesis thesis) throws IllegalStateException {
        if (!person.isIn(thesis.members)) {
            throw new IllegalStateException("the person is not a member");
        }
    }

    private void refuseFor(int reason) throws UnsupportedOperationException {
        if (reason != 0) {
            keptReason = reason;
            throw new UnsupportedOperationException("refused, with a reason");
        }
    }

    private int completionOf(Thesis thesis) throws NoSuchElementException {
        int joiners = completion.find(plan, thesis);
        if (joiners == NONE) {
            throw new NoSuchElementException("the committee cannot be completed");
        }
        return joiners;
    }

    private static boolean isBelow(int number, int bound) {
        return number >= 0 && number < bound;
    }

    private static boolean isDay(int day) {
        return day >= 0 && day <= LAST_DAY;
    }

    /** A person; one that does not exist is kept as it was made, so that it counts nowhere. */
    private static final class Person {
        /** A day takes one byte of a long. */
        private static final int DAYS_PER_LONG = 8;

        final int number;
        final long[] busy;
        int busyHours;
        int rank;
        int fields;
        int department;
        int limit;
        int conflicts;

        Person(int number) {
            this.number = number;
            busy = new long[LAST_DAY / DAYS_PER_LONG + 1];
        }

        void set(int rank, int fields, int department, int limit) {
            this.rank = rank;
            this.fields = fields;
            this.department = department;
            this.limit = limit;
        }

        void makeNew() {
            set(0, 0, 0, 0);
            conflicts = 0;
            busyHours = 0;
            for (int i = 0; i < busy.length; i++) {
                busy[i] = 0L;
            }
        }

        void copyFrom(Person from) {
            set(from.rank, from.fields, from.department, from.limit);
            conflicts = from.conflicts;
            busyHours = from.busyHours;
            System.arraycopy(from.busy, 0, busy, 0, busy.length);
        }

        int bit() {
            return 1 << number;
        }

        boolean isIn(int set) {
            return (set >> number & 1) != 0;
        }

        void markConflict(Person other, boolean isOn) {
            conflicts = isOn ? conflicts | other.bit() : conflicts & ~other.bit();
        }

        /** The busy hours of a day, as a set. */
        int busyOn(int day) {
            int index = day / DAYS_PER_LONG;
            if (day < 0 || index >= busy.length) {
                return 0;
            }
            return (int) (busy[index] >>> day % DAYS_PER_LONG * HOURS) & ALL_HOURS;
        }

        boolean isBusy(int day, int hour) {
            return (busyOn(day) >> hour & 1) != 0;
        }

        void flipBusy(int day, int hour) {
            int index = day / DAYS_PER_LONG;
            if (day >= 0 && index < busy.length) {
                busyHours += isBusy(day, hour) ? -1 : 1;
                busy[index] ^= 1L << day % DAYS_PER_LONG * HOURS + hour;
            }
        }
    }

    /** A thesis; one that does not exist is kept without supervisor, members and place. */
    private static final class Thesis {
        final int number;
        int kind;
        int field;
        int department;
        int supervisor;
        int stage;
        int members;
        int room;
        int day;
        int hour;

        Thesis(int number) {
            this.number = number;
            supervisor = NONE;
            room = NONE;
            day = NONE;
            hour = NONE;
        }

        void set(int kind, int field, int department, int supervisor) {
            this.kind = kind;
            this.field = field;
            this.department = department;
            this.supervisor = supervisor;
        }

        void makeNew() {
            set(0, 0, 0, NONE);
            stage = 0;
            members = 0;
            losePlace();
        }

        void copyFrom(Thesis from) {
            set(from.kind, from.field, from.department, from.supervisor);
            stage = from.stage;
            members = from.members;
            takePlace(from.room, from.day, from.hour);
        }

        void takePlace(int room, int day, int hour) {
            this.room = room;
            this.day = day;
            this.hour = hour;
        }

        void losePlace() {
            takePlace(NONE, NONE, NONE);
        }

        boolean isPlaced() {
            return room != NONE;
        }

        boolean isDefended() {
            return stage == DEFENDED;
        }

        /** Whether the place of the defence can still be lost. */
        boolean isAhead() {
            return isPlaced() && !isDefended();
        }

        int bit() {
            return 1 << number;
        }

        int memberCount() {
            return Integer.bitCount(members);
        }

        int needed(int what) {
            int index = kind * QUORUM_NUMBERS + what;
            return index >= 0 && index < QUORUMS.length ? QUORUMS[index] : 0;
        }

        int mostMembers() {
            return needed(0) + SPARE_MEMBERS;
        }

        int daysBefore(int stage) {
            int index = kind * DEFENDED + stage - 1;
            return index >= 0 && index < DAYS_BEFORE.length ? DAYS_BEFORE[index] : 0;
        }

        int deadlineOf(int stage) {
            return day - daysBefore(stage);
        }

        int nextDeadline() {
            return deadlineOf(stage + 1);
        }

        /** The hours of a day that the defence takes, as a set. */
        int hoursOn(int day) {
            return room != NONE && this.day == day ? TWO_HOURS << hour : 0;
        }

        /** Whether a person counts for a number of the quorum. */
        boolean counts(Person person, int what) {
            switch (what) {
                case 0: return true;
                case 1: return person.rank == PROFESSOR;
                case 2: return person.rank == GUEST;
                case 3: return (person.fields >> field & 1) != 0;
                case 4: return person.department != department;
                default: return false;
            }
        }
    }

    /** All that the history remembers for a change. */
    private static final class Plan {
        final Person[] persons;
        final Thesis[] theses;
        final int[] line;
        int personCount;
        int thesisCount;
        int lineLength;
        int today;
        int lostPlaces;

        Plan() {
            persons = new Person[PERSONS];
            for (int i = 0; i < persons.length; i++) {
                persons[i] = new Person(i);
            }
            theses = new Thesis[THESES];
            for (int i = 0; i < theses.length; i++) {
                theses[i] = new Thesis(i);
            }
            line = new int[THESES];
        }

        void makeNew() {
            for (Person person : persons) {
                person.makeNew();
            }
            for (Thesis thesis : theses) {
                thesis.makeNew();
            }
            personCount = 0;
            thesisCount = 0;
            lineLength = 0;
            today = 0;
            lostPlaces = 0;
        }

        void copyFrom(Plan from) {
            for (int i = 0; i < PERSONS; i++) {
                persons[i].copyFrom(from.persons[i]);
            }
            for (int i = 0; i < THESES; i++) {
                theses[i].copyFrom(from.theses[i]);
            }
            System.arraycopy(from.line, 0, line, 0, THESES);
            personCount = from.personCount;
            thesisCount = from.thesisCount;
            lineLength = from.lineLength;
            today = from.today;
            lostPlaces = from.lostPlaces;
        }

        /** Adds a person; returns its number, or NONE if there is no room. */
        int enrol(int rank, int fields, int department, int limit) {
            if (personCount >= PERSONS) {
                return NONE;
            }
            persons[personCount].set(rank, fields, department, limit);
            personCount++;
            return personCount - 1;
        }

        /** Adds a thesis; returns its number, or NONE if there is no room. */
        int register(int kind, int field, int department, int supervisor) {
            if (thesisCount >= THESES) {
                return NONE;
            }
            theses[thesisCount].set(kind, field, department, supervisor);
            thesisCount++;
            return thesisCount - 1;
        }

        // -- persons

        /** The committees that count for the limit of a person, as a set, without that of one thesis. */
        int committeesOf(Person person, Thesis except) {
            int set = 0;
            for (Thesis thesis : theses) {
                if (thesis != except && !thesis.isDefended() && person.isIn(thesis.members)) {
                    set |= thesis.bit();
                }
            }
            return set;
        }

        int supervisedBy(Person person) {
            int set = 0;
            for (Thesis thesis : theses) {
                if (thesis.supervisor == person.number) {
                    set |= thesis.bit();
                }
            }
            return set;
        }

        /** The hours of a day at which a person cannot come, as a set, without the defence of one thesis. */
        int hoursTaken(Person person, int day, Thesis except) {
            int hours = person.busyOn(day);
            for (Thesis thesis : theses) {
                if (thesis != except && person.isIn(thesis.members)) {
                    hours |= thesis.hoursOn(day);
                }
            }
            return hours;
        }

        int firstFreeDay(Person person) {
            for (int day = today; day <= LAST_DAY; day++) {
                if (hoursTaken(person, day, null) == 0) {
                    return day;
                }
            }
            return NONE;
        }

        // -- committees

        /** The persons who count for a number of the quorum, as a set. */
        int countingFor(Thesis thesis, int what) {
            int set = 0;
            for (Person person : persons) {
                if (thesis.counts(person, what)) {
                    set |= person.bit();
                }
            }
            return set;
        }

        int lackOf(Thesis thesis, int what) {
            int has = Integer.bitCount(countingFor(thesis, what) & thesis.members);
            return Math.max(thesis.needed(what) - has, 0);
        }

        /** Whether the quorum holds if these are the members. */
        boolean quorumHolds(Thesis thesis, int members) {
            for (int what = 0; what < QUORUM_NUMBERS; what++) {
                if (Integer.bitCount(countingFor(thesis, what) & members) < thesis.needed(what)) {
                    return false;
                }
            }
            return true;
        }

        /** Why a person could not join if these were the members, or 0. */
        int reasonNotToJoin(Thesis thesis, int members, Person person) {
            if (person.isIn(members)) {
                return 1;
            }
            if (person.number == thesis.supervisor && thesis.kind != 0) {
                return 2;
            }
            if ((person.conflicts >> thesis.supervisor & 1) != 0) {
                return 3;
            }
            if ((person.conflicts & members) != 0) {
                return 4;
            }
            // the person may be the member to be replaced: then this committee must not count
            if (Integer.bitCount(committeesOf(person, thesis)) >= person.limit) {
                return 5;
            }
            if (Integer.bitCount(members) >= thesis.mostMembers()) {
                return 6;
            }
            if (thesis.isPlaced()
                    && (hoursTaken(person, thesis.day, thesis) & TWO_HOURS << thesis.hour) != 0) {
                return 7;
            }
            return thesis.isDefended() ? 8 : 0;
        }

        /** The persons who could join if these were the members, as a set. */
        int possibleJoiners(Thesis thesis, int members) {
            int set = 0;
            for (int i = 0; i < personCount; i++) {
                if (reasonNotToJoin(thesis, members, persons[i]) == 0) {
                    set |= persons[i].bit();
                }
            }
            return set;
        }

        boolean canLeave(Thesis thesis, Person person) {
            return person.isIn(thesis.members) && !thesis.isDefended();
        }

        /** Takes the place away if the quorum does not hold; returns whether it holds. */
        boolean keepPlaceByQuorum(Thesis thesis) {
            boolean holds = quorumHolds(thesis, thesis.members);
            if (!holds) {
                thesis.losePlace();
            }
            return holds;
        }

        int replacementsFor(Thesis thesis, Person member) {
            int others = thesis.members & ~member.bit();
            int joiners = possibleJoiners(thesis, others) & ~member.bit();
            int set = 0;
            for (Person person : persons) {
                if (person.isIn(joiners) && quorumHolds(thesis, others | person.bit())) {
                    set |= person.bit();
                }
            }
            return set;
        }

        // -- defences

        /** The hours of a day in which a room is taken, as a set, without the defence of one thesis. */
        int hoursInRoom(int room, int day, Thesis except) {
            int hours = 0;
            for (Thesis thesis : theses) {
                if (thesis != except && thesis.room == room) {
                    hours |= thesis.hoursOn(day);
                }
            }
            return hours;
        }

        /** The hours of a day at which some member cannot come to the defence, as a set. */
        int hoursOfMembers(Thesis thesis, int day) {
            int hours = 0;
            for (Person person : persons) {
                if (person.isIn(thesis.members)) {
                    hours |= hoursTaken(person, day, thesis);
                }
            }
            return hours;
        }

        /** Why a defence could not be placed, or 0. */
        int reasonNotToPlace(Thesis thesis, int room, int day, int hour) {
            if (thesis.isDefended()) {
                return 8;
            }
            if (!quorumHolds(thesis, thesis.members)) {
                return 9;
            }
            if ((hoursInRoom(room, day, thesis) & TWO_HOURS << hour) != 0) {
                return 10;
            }
            if ((hoursOfMembers(thesis, day) & TWO_HOURS << hour) != 0) {
                return 11;
            }
            return day < firstDayFor(thesis) ? 12 : 0;
        }

        /** The first day of which the next deadline is not over. */
        int firstDayFor(Thesis thesis) {
            return today + thesis.daysBefore(thesis.stage + 1);
        }

        /** The time as earliest tells it, or NONE. */
        int earliestTime(Thesis thesis) {
            if (thesis.isDefended() || !quorumHolds(thesis, thesis.members)) {
                return NONE;
            }
            for (int day = firstDayFor(thesis); day <= LAST_DAY; day++) {
                int time = earliestTimeOn(thesis, day);
                if (time != NONE) {
                    return 100 * day + time;
                }
            }
            return NONE;
        }

        /** The first hour times 10 plus the room, or NONE. */
        int earliestTimeOn(Thesis thesis, int day) {
            int hours = hoursOfMembers(thesis, day);
            for (int hour = 0; hour <= LAST_FIRST_HOUR; hour++) {
                for (int room = 0; room < ROOMS && (hours & TWO_HOURS << hour) == 0; room++) {
                    if ((hoursInRoom(room, day, thesis) & TWO_HOURS << hour) == 0) {
                        return 10 * hour + room;
                    }
                }
            }
            return NONE;
        }

        int thesisInRoom(int room, int day, int hour) {
            for (Thesis thesis : theses) {
                if (thesis.room == room && (thesis.hoursOn(day) >> hour & 1) != 0) {
                    return thesis.number;
                }
            }
            return NONE;
        }

        boolean canGoOn(Thesis thesis) {
            return thesis.isAhead() && (thesis.stage + 1 < DEFENDED || thesis.day == today);
        }

        /** The least number of days to the next deadline of a defence ahead, or NONE. */
        int daysToNextDeadline() {
            int least = NONE;
            for (Thesis thesis : theses) {
                if (thesis.isAhead()) {
                    int days = thesis.nextDeadline() - today;
                    least = least == NONE ? days : Math.min(least, days);
                }
            }
            return least;
        }

        // -- waiting and days

        int placeInLine(Thesis thesis) {
            for (int i = 0; i < lineLength; i++) {
                if (line[i] == thesis.number) {
                    return i;
                }
            }
            return NONE;
        }

        void queueUp(Thesis thesis) {
            if (placeInLine(thesis) == NONE && lineLength < THESES) {
                line[lineLength] = thesis.number;
                lineLength++;
            }
        }

        /** Returns the number of theses that were placed. */
        int serveLine() {
            int served = 0;
            for (int i = 0; i < lineLength; i++) {
                int number = line[i];
                int time = isBelow(number, thesisCount) ? earliestTime(theses[number]) : NONE;
                if (time == NONE) {
                    line[i - served] = number;
                } else {
                    theses[number].takePlace(time % 10, time / 100, time / 10 % 10);
                    served++;
                }
            }
            lineLength -= served;
            return served;
        }

        boolean canSpend(int days) {
            return days >= 1 && days <= MOST_DAYS && today + days <= LAST_DAY;
        }

        /** Returns the number of defences that lost their places. */
        int spend(int days) {
            int lost = 0;
            // stages stand still while days pass, so the last day alone shows all that is lost
            today += days;
            for (Thesis thesis : theses) {
                if (thesis.isAhead() && thesis.nextDeadline() < today) {
                    thesis.losePlace();
                    lost++;
                }
            }
            lostPlaces += lost;
            return lost;
        }

        // -- accounts

        int placedCount() {
            int count = 0;
            for (Thesis thesis : theses) {
                count += thesis.isAhead() ? 1 : 0;
            }
            return count;
        }

        int defendedCount() {
            int count = 0;
            for (Thesis thesis : theses) {
                count += thesis.isDefended() ? 1 : 0;
            }
            return count;
        }

        int memberSum() {
            int sum = 0;
            for (Thesis thesis : theses) {
                sum += thesis.memberCount();
            }
            return sum;
        }

        int quorumCount() {
            int count = 0;
            for (Thesis thesis : theses) {
                count += quorumHolds(thesis, thesis.members) ? 1 : 0;
            }
            return count;
        }

        int conflictPairs() {
            int sum = 0;
            for (Person person : persons) {
                sum += Integer.bitCount(person.conflicts);
            }
            // each pair was seen from both sides
            return sum / 2;
        }

        int loadSum() {
            int sum = 0;
            for (Thesis thesis : theses) {
                sum += thesis.isDefended() ? 0 : thesis.memberCount();
            }
            return sum;
        }

        // -- texts

        /** Does what an entry of a text tells; returns DONE, CANNOT, or the reason of the refusal. */
        int doEntry(int sign, int first, int second, int third, int fourth) {
            if (sign == 'd') {
                return daysEntry(first);
            }
            if (!isBelow(first, thesisCount)) {
                return CANNOT;
            }
            Thesis thesis = theses[first];
            switch (sign) {
                case 'j': return joinEntry(thesis, second);
                case 'l': return leaveEntry(thesis, second);
                case 'p': return placeEntry(thesis, second, third, fourth);
                case 'n': return nextEntry(thesis);
                default: return CANNOT;
            }
        }

        private int daysEntry(int days) {
            if (!canSpend(days)) {
                return CANNOT;
            }
            spend(days);
            return DONE;
        }

        private int joinEntry(Thesis thesis, int person) {
            if (!isBelow(person, personCount)) {
                return CANNOT;
            }
            int reason = reasonNotToJoin(thesis, thesis.members, persons[person]);
            if (reason != 0) {
                return reason;
            }
            thesis.members |= persons[person].bit();
            return DONE;
        }

        private int leaveEntry(Thesis thesis, int person) {
            if (!isBelow(person, personCount) || !canLeave(thesis, persons[person])) {
                return CANNOT;
            }
            thesis.members &= ~persons[person].bit();
            keepPlaceByQuorum(thesis);
            return DONE;
        }

        private int placeEntry(Thesis thesis, int room, int day, int hour) {
            if (!isBelow(room, ROOMS) || !isDay(day) || !isBelow(hour, LAST_FIRST_HOUR + 1)) {
                return CANNOT;
            }
            int reason = reasonNotToPlace(thesis, room, day, hour);
            if (reason != 0) {
                return reason;
            }
            thesis.takePlace(room, day, hour);
            return DONE;
        }

        private int nextEntry(Thesis thesis) {
            if (!canGoOn(thesis)) {
                return CANNOT;
            }
            thesis.stage++;
            return DONE;
        }
    }

    /** The search for the persons who complete a committee. */
    private static final class Completion {
        /** For each number of the quorum the persons who count for it, as sets. */
        final int[] counting;

        Completion() {
            counting = new int[QUORUM_NUMBERS];
        }

        /** The set of the fewest persons, or NONE. */
        int find(Plan plan, Thesis thesis) {
            for (int what = 0; what < QUORUM_NUMBERS; what++) {
                counting[what] = plan.countingFor(thesis, what);
            }
            int joiners = plan.possibleJoiners(thesis, thesis.members);
            int most = thesis.mostMembers() - thesis.memberCount();
            for (int size = 0; size <= most; size++) {
                int set = choose(this, plan, thesis, 0, joiners, size);
                if (set != NONE) {
                    return set;
                }
            }
            return NONE;
        }

        /**
         * Adds so many of the joiners to those chosen so far that the quorum holds, the lower ones
         * first. The number of them falls with each level, and so bounds the recursion.
         */
        private static int choose(Completion search, Plan plan, Thesis thesis, int chosen, int joiners,
                int size) {
            if (search.isHopeless(thesis, thesis.members | chosen, joiners, size)) {
                return NONE;
            }
            if (size <= 0) {
                return chosen;
            }
            int left = joiners;
            for (Person person : plan.persons) {
                if (person.isIn(left)) {
                    left &= ~person.bit();
                    int set = choose(search, plan, thesis, chosen | person.bit(),
                            left & ~person.conflicts, size - 1);
                    if (set != NONE) {
                        return set;
                    }
                }
            }
            return NONE;
        }

        /** Whether so many joiners cannot give what the quorum lacks, even without their conflicts. */
        private boolean isHopeless(Thesis thesis, int members, int joiners, int size) {
            if (Integer.bitCount(joiners) < size) {
                return true;
            }
            for (int what = 0; what < QUORUM_NUMBERS; what++) {
                int lack = thesis.needed(what) - Integer.bitCount(counting[what] & members);
                if (lack > size || lack > Integer.bitCount(counting[what] & joiners)) {
                    return true;
                }
            }
            return false;
        }
    }

    /** The plans as they were just before the latest changes. */
    private static final class History {
        /** One more than is remembered: it takes the plan ahead of a change that may not come about. */
        private static final int PLANS = CHANGES + 1;

        final Plan[] plans;
        int oldest;
        int count;

        History() {
            plans = new Plan[PLANS];
            for (int i = 0; i < plans.length; i++) {
                plans[i] = new Plan();
            }
        }

        void forget() {
            count = 0;
        }

        void remember(Plan plan) {
            prepare(plan);
            keep();
        }

        void prepare(Plan plan) {
            plans[indexBehind()].copyFrom(plan);
        }

        /** Remembers the plan that was prepared. */
        void keep() {
            if (count < CHANGES) {
                count++;
            } else {
                oldest = (oldest + 1) % PLANS;
            }
        }

        /** Makes a plan as it was prepared. */
        void giveBack(Plan plan) {
            plan.copyFrom(plans[indexBehind()]);
        }

        void takeBackLatest(Plan plan) {
            if (count > 0) {
                count--;
                giveBack(plan);
            }
        }

        private int indexBehind() {
            return (oldest + count) % PLANS;
        }
    }

    /** The input, and the entries of the text that was read last. */
    private static final class Input {
        /** The shortest entry has three signs. */
        private static final int MOST_ENTRIES = INPUT / 3;
        /** The letter of an entry and up to four numbers. */
        private static final int COLUMNS = 5;

        /*
         * What stands behind the letter of an entry: 0 is a digit that must be there, 9 one that may.
         * Digits serve as these marks because a sign that is a digit is never taken for a mark.
         */
        private static final char MUST = '0';
        private static final char MAY = '9';
        private static final String MEMBER_FORM = "0,099;";
        private static final String PLACE_FORM = "0@0,099,0;";
        private static final String NEXT_FORM = "0;";
        private static final String DAYS_FORM = "099;";

        final char[] signs;
        final int[] cells;
        int length;
        int entryCount;
        String form;
        int step;
        int column;

        Input() {
            signs = new char[INPUT];
            cells = new int[MOST_ENTRIES * COLUMNS];
            form = "";
        }

        /** Returns whether there was room for the sign. */
        boolean take(char sign) {
            if (length >= signs.length) {
                return false;
            }
            signs[length] = sign;
            length++;
            return true;
        }

        /** Empties the input into entries; returns NONE, or the error position. */
        int readOut() {
            int signCount = length;
            length = 0;
            entryCount = 0;
            form = "";
            for (int i = 0; i < signCount; i++) {
                if (!accept(signs[i])) {
                    return i;
                }
            }
            return form.isEmpty() && entryCount > 0 ? NONE : signCount;
        }

        int cell(int entry, int column) {
            int index = entry * COLUMNS + column;
            return index >= 0 && index < cells.length ? cells[index] : 0;
        }

        /** Returns whether a right text can go on with the sign. An empty form is one of no open entry. */
        private boolean accept(char sign) {
            if (form.isEmpty()) {
                return open(sign);
            }
            if (sign >= '0' && sign <= '9') {
                return acceptDigit(sign - '0');
            }
            while (step < form.length() && form.charAt(step) == MAY) {
                step++;
            }
            if (step >= form.length() || form.charAt(step) != sign) {
                return false;
            }
            step++;
            column++;
            if (step == form.length()) {
                form = "";
                entryCount++;
            }
            return true;
        }

        private boolean open(char sign) {
            form = formOf(sign);
            if (form.isEmpty() || entryCount >= MOST_ENTRIES) {
                return false;
            }
            for (int i = 1; i < COLUMNS; i++) {
                cells[entryCount * COLUMNS + i] = 0;
            }
            cells[entryCount * COLUMNS] = sign;
            step = 0;
            column = 1;
            return true;
        }

        private static String formOf(char sign) {
            switch (sign) {
                case 'j': return MEMBER_FORM;
                case 'l': return MEMBER_FORM;
                case 'p': return PLACE_FORM;
                case 'n': return NEXT_FORM;
                case 'd': return DAYS_FORM;
                default: return "";
            }
        }

        private boolean acceptDigit(int digit) {
            if (step >= form.length() || form.charAt(step) != MUST && form.charAt(step) != MAY) {
                return false;
            }
            int index = entryCount * COLUMNS + column;
            if (index < 0 || index >= cells.length) {
                return false;
            }
            cells[index] = cells[index] * 10 + digit;
            step++;
            return true;
        }
    }
}
