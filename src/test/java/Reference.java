import java.util.ArrayDeque;
import java.util.ArrayList;
import java.util.Deque;
import java.util.List;
import java.util.NoSuchElementException;
import java.util.Set;
import java.util.TreeSet;
import java.util.regex.Matcher;
import java.util.regex.Pattern;

/**
 * The document once more, in sets and lists and by trying everything out, so that random runs of
 * the class can be compared with it. It shares nothing with the class.
 */
final class Reference {


    static final class Defence {
        final int room;
        final int day;
        final int hour;

        Defence(int room, int day, int hour) {
            this.room = room;
            this.day = day;
            this.hour = hour;
        }

        boolean meets(int otherDay, int firstHour, int hours) {
            return day == otherDay && hour < firstHour + hours && firstHour < hour + 2;
        }
    }

    static final class Somebody {
        int rank;
        Set<Integer> fields = new TreeSet<>();
        int department;
        int limit;
        Set<Integer> enemies = new TreeSet<>();
        Set<Integer> busy = new TreeSet<>();

        Somebody copy() {
            Somebody copy = new Somebody();
            copy.rank = rank;
            copy.fields = new TreeSet<>(fields);
            copy.department = department;
            copy.limit = limit;
            copy.enemies = new TreeSet<>(enemies);
            copy.busy = new TreeSet<>(busy);
            return copy;
        }
    }

    static final class Work {
        int kind;
        int field;
        int department;
        int supervisor;
        int stage;
        Set<Integer> members = new TreeSet<>();
        Defence defence;

        Work copy() {
            Work copy = new Work();
            copy.kind = kind;
            copy.field = field;
            copy.department = department;
            copy.supervisor = supervisor;
            copy.stage = stage;
            copy.members = new TreeSet<>(members);
            copy.defence = defence;
            return copy;
        }
    }

    static final class State {
        List<Somebody> people = new ArrayList<>();
        List<Work> works = new ArrayList<>();
        List<Integer> line = new ArrayList<>();
        int today;
        int lost;

        State copy() {
            State copy = new State();
            for (Somebody somebody : people) {
                copy.people.add(somebody.copy());
            }
            for (Work work : works) {
                copy.works.add(work.copy());
            }
            copy.line = new ArrayList<>(line);
            copy.today = today;
            copy.lost = lost;
            return copy;
        }
    }

    private static final Pattern ENTRY = Pattern.compile(
            "([jl])([0-9]),([0-9]{1,3});|(p)([0-9])@([0-9]),([0-9]{1,3}),([0-9]);|(n)([0-9]);|(d)([0-9]{1,3});");
    private static final Pattern TEXT = Pattern.compile("(" + ENTRY.pattern() + ")+");

    private State state = new State();
    private State saved;
    private final Deque<State> past = new ArrayDeque<>();
    private String input = "";
    private Integer keptReason;
    private Integer keptError;

    // ---- persons

    int clear() {
        int number = state.people.size();
        state = new State();
        past.clear();
        return number;
    }

    int addPerson(int rank, int fields, int department, int limit) {
        range(rank, 0, 2);
        range(fields, 0, 63);
        range(department, 0, 3);
        range(limit, 1, 6);
        legal(state.people.size() < 14);
        change();
        Somebody somebody = new Somebody();
        somebody.rank = rank;
        somebody.fields = elements(fields);
        somebody.department = department;
        somebody.limit = limit;
        state.people.add(somebody);
        return state.people.size() - 1;
    }

    boolean setConflict(int person, int other, boolean isOn) {
        somebody(person);
        somebody(other);
        if (person == other) {
            throw new IllegalArgumentException();
        }
        change();
        boolean were = somebody(person).enemies.contains(other);
        if (isOn) {
            somebody(person).enemies.add(other);
            somebody(other).enemies.add(person);
        } else {
            somebody(person).enemies.remove(other);
            somebody(other).enemies.remove(person);
        }
        return were;
    }

    boolean setBusy(int person, int day, int hour, boolean isOn) {
        somebody(person);
        range(day, 0, 400);
        range(hour, 0, 7);
        change();
        Set<Integer> busy = somebody(person).busy;
        return isOn ? !busy.add(8 * day + hour) : busy.remove(8 * day + hour);
    }

    int person(int person, int what) {
        Somebody somebody = somebody(person);
        range(what, 0, 7);
        Set<Integer> committees = new TreeSet<>();
        Set<Integer> supervised = new TreeSet<>();
        for (int i = 0; i < state.works.size(); i++) {
            Work work = state.works.get(i);
            if (work.members.contains(person) && work.stage != 4) {
                committees.add(i);
            }
            if (work.supervisor == person) {
                supervised.add(i);
            }
        }
        return new int[] {somebody.rank, mask(somebody.fields), somebody.department, somebody.limit,
            mask(somebody.enemies), mask(committees), mask(supervised), somebody.busy.size()}[what];
    }

    boolean isFree(int person, int day, int hour) {
        somebody(person);
        range(day, 0, 400);
        range(hour, 0, 6);
        return free(person, day, hour, null);
    }

    private boolean free(int person, int day, int hour, Work except) {
        for (int h = hour; h < hour + 2; h++) {
            if (state.people.get(person).busy.contains(8 * day + h)) {
                return false;
            }
        }
        for (Work work : state.works) {
            if (work != except && work.members.contains(person) && work.defence != null
                    && work.defence.meets(day, hour, 2)) {
                return false;
            }
        }
        return true;
    }

    int freeDay(int person) {
        somebody(person);
        for (int day = state.today; day <= 400; day++) {
            boolean isFree = true;
            for (int hour = 0; hour < 8; hour++) {
                isFree &= !somebody(person).busy.contains(8 * day + hour);
            }
            for (Work work : state.works) {
                isFree &= !(work.members.contains(person) && work.defence != null && work.defence.day == day);
            }
            if (isFree) {
                return day;
            }
        }
        throw new NoSuchElementException();
    }

    // ---- theses and committees

    int addThesis(int kind, int field, int department, int supervisor) {
        somebody(supervisor);
        range(kind, 0, 2);
        range(field, 0, 5);
        range(department, 0, 3);
        legal(state.works.size() < 8);
        change();
        Work work = new Work();
        work.kind = kind;
        work.field = field;
        work.department = department;
        work.supervisor = supervisor;
        state.works.add(work);
        return state.works.size() - 1;
    }

    int thesis(int thesis, int what) {
        Work work = work(thesis);
        range(what, 0, 10);
        Defence defence = work.defence == null ? new Defence(-1, -1, -1) : work.defence;
        return new int[] {work.kind, work.field, work.department, work.supervisor, work.stage, mask(work.members),
            defence.room, defence.day, defence.hour, state.line.contains(thesis) ? 1 : 0, most(work)}[what];
    }

    private static int[] quorum(Work work) {
        switch (work.kind) {
            case 0: return new int[] {3, 1, 0, 1, 0};
            case 1: return new int[] {4, 2, 1, 2, 1};
            default: return new int[] {5, 3, 1, 3, 2};
        }
    }

    private static int most(Work work) {
        return quorum(work)[0] + 2;
    }

    private int[] has(Work work, Set<Integer> members) {
        int[] has = new int[5];
        for (int member : members) {
            Somebody somebody = state.people.get(member);
            has[0]++;
            has[1] += somebody.rank == 0 ? 1 : 0;
            has[2] += somebody.rank == 2 ? 1 : 0;
            has[3] += somebody.fields.contains(work.field) ? 1 : 0;
            has[4] += somebody.department != work.department ? 1 : 0;
        }
        return has;
    }

    private boolean quorumHolds(Work work, Set<Integer> members) {
        int[] has = has(work, members);
        for (int what = 0; what < 5; what++) {
            if (has[what] < quorum(work)[what]) {
                return false;
            }
        }
        return true;
    }

    private int joinReason(Work work, Set<Integer> members, int person) {
        Somebody somebody = state.people.get(person);
        if (members.contains(person)) {
            return 1;
        }
        if (work.supervisor == person && work.kind > 0) {
            return 2;
        }
        if (somebody.enemies.contains(work.supervisor)) {
            return 3;
        }
        for (int member : members) {
            if (somebody.enemies.contains(member)) {
                return 4;
            }
        }
        int committees = 0;
        for (Work other : state.works) {
            if (other != work && other.stage < 4 && other.members.contains(person)) {
                committees++;
            }
        }
        if (committees >= somebody.limit) {
            return 5;
        }
        if (members.size() >= most(work)) {
            return 6;
        }
        if (work.defence != null && !free(person, work.defence.day, work.defence.hour, work)) {
            return 7;
        }
        return work.stage == 4 ? 8 : 0;
    }

    int join(int thesis, int person) {
        Work work = work(thesis);
        somebody(person);
        refuse(joinReason(work, work.members, person));
        change();
        work.members.add(person);
        return work.members.size();
    }

    int leave(int thesis, int person) {
        Work work = work(thesis);
        somebody(person);
        legal(work.members.contains(person) && work.stage < 4);
        change();
        work.members.remove(person);
        if (!quorumHolds(work, work.members)) {
            work.defence = null;
        }
        return work.members.size();
    }

    int replace(int thesis, int member, int person) {
        Work work = work(thesis);
        somebody(member);
        somebody(person);
        legal(work.members.contains(member));
        Set<Integer> members = new TreeSet<>(work.members);
        members.remove(member);
        refuse(joinReason(work, members, person));
        change();
        members.add(person);
        work.members = members;
        if (quorumHolds(work, members)) {
            return 1;
        }
        work.defence = null;
        return 0;
    }

    int whyNotJoin(int thesis, int person) {
        Work work = work(thesis);
        somebody(person);
        return joinReason(work, work.members, person);
    }

    int lacks(int thesis, int what) {
        Work work = work(thesis);
        range(what, 0, 4);
        return Math.max(0, quorum(work)[what] - has(work, work.members)[what]);
    }

    int replacements(int thesis, int member) {
        Work work = work(thesis);
        somebody(member);
        legal(work.members.contains(member));
        Set<Integer> found = new TreeSet<>();
        for (int person = 0; person < state.people.size(); person++) {
            Set<Integer> members = new TreeSet<>(work.members);
            members.remove(member);
            if (person != member && joinReason(work, members, person) == 0) {
                members.add(person);
                if (quorumHolds(work, members)) {
                    found.add(person);
                }
            }
        }
        return mask(found);
    }

    int completion(int thesis) {
        Work work = work(thesis);
        List<Integer> best = null;
        for (int set = 0; set < 1 << state.people.size(); set++) {
            if (best != null && Integer.bitCount(set) > best.size()) {
                continue;
            }
            List<Integer> persons = new ArrayList<>(elements(set));
            if (completes(work, persons) && (best == null || isAhead(persons, best))) {
                best = persons;
            }
        }
        if (best == null) {
            throw new NoSuchElementException();
        }
        return mask(best);
    }

    private boolean completes(Work work, List<Integer> persons) {
        if (work.members.size() + persons.size() > most(work)) {
            return false;
        }
        Set<Integer> members = new TreeSet<>(work.members);
        for (int person : persons) {
            if (joinReason(work, members, person) != 0) {
                return false;
            }
            members.add(person);
        }
        return quorumHolds(work, members);
    }

    private static boolean isAhead(List<Integer> one, List<Integer> other) {
        if (one.size() != other.size()) {
            return one.size() < other.size();
        }
        for (int i = 0; i < one.size(); i++) {
            int order = Integer.compare(one.get(i), other.get(i));
            if (order != 0) {
                return order < 0;
            }
        }
        return false;
    }

    int complete(int thesis) {
        Set<Integer> persons = elements(completion(thesis));
        change();
        work(thesis).members.addAll(persons);
        return persons.size();
    }

    int reason() {
        return kept(keptReason);
    }

    // ---- defences and deadlines

    private static int before(Work work, int stage) {
        int[][] days = {{21, 10, 5, 0}, {28, 14, 7, 0}, {42, 21, 14, 0}};
        return days[work.kind][stage - 1];
    }

    private int placeReason(Work work, int room, int day, int hour) {
        if (work.stage == 4) {
            return 8;
        }
        if (!quorumHolds(work, work.members)) {
            return 9;
        }
        for (Work other : state.works) {
            if (other != work && other.defence != null && other.defence.room == room
                    && other.defence.meets(day, hour, 2)) {
                return 10;
            }
        }
        for (int member : work.members) {
            if (!free(member, day, hour, work)) {
                return 11;
            }
        }
        return day - before(work, work.stage + 1) < state.today ? 12 : 0;
    }

    int place(int thesis, int room, int day, int hour) {
        int reason = whyNotPlace(thesis, room, day, hour);
        refuse(reason);
        change();
        Work work = work(thesis);
        work.defence = new Defence(room, day, hour);
        return day - before(work, work.stage + 1);
    }

    int takeBack(int thesis) {
        Work work = work(thesis);
        legal(work.defence != null && work.stage < 4);
        change();
        int day = work.defence.day;
        work.defence = null;
        return day;
    }

    int whyNotPlace(int thesis, int room, int day, int hour) {
        Work work = work(thesis);
        exists(room, 3);
        range(day, 0, 400);
        range(hour, 0, 6);
        return placeReason(work, room, day, hour);
    }

    int earliest(int thesis) {
        Work work = work(thesis);
        if (work.stage == 4 || !quorumHolds(work, work.members)) {
            throw new NoSuchElementException();
        }
        for (int day = 0; day <= 400; day++) {
            for (int hour = 0; hour <= 6; hour++) {
                for (int room = 0; room < 3; room++) {
                    if (placeReason(work, room, day, hour) == 0) {
                        return 100 * day + 10 * hour + room;
                    }
                }
            }
        }
        throw new NoSuchElementException();
    }

    int deadline(int thesis, int stage) {
        Work work = work(thesis);
        range(stage, 1, 4);
        legal(work.defence != null);
        return work.defence.day - before(work, stage);
    }

    int goOn(int thesis) {
        Work work = work(thesis);
        legal(work.stage < 4 && work.defence != null);
        legal(work.stage < 3 || work.defence.day == state.today);
        change();
        return ++work.stage;
    }

    int mostUrgent() {
        Set<Integer> days = new TreeSet<>();
        for (Work work : state.works) {
            if (work.defence != null && work.stage < 4) {
                days.add(work.defence.day - before(work, work.stage + 1) - state.today);
            }
        }
        if (days.isEmpty()) {
            throw new NoSuchElementException();
        }
        return days.iterator().next();
    }

    int inRoom(int room, int day, int hour) {
        exists(room, 3);
        range(day, 0, 400);
        range(hour, 0, 7);
        for (int i = 0; i < state.works.size(); i++) {
            Defence defence = state.works.get(i).defence;
            if (defence != null && defence.room == room && defence.meets(day, hour, 1)) {
                return i;
            }
        }
        throw new NoSuchElementException();
    }

    // ---- waiting, days and accounts

    int await(int thesis) {
        Work work = work(thesis);
        legal(work.stage < 4 && work.defence == null);
        change();
        if (!state.line.contains(thesis)) {
            state.line.add(thesis);
        }
        return state.line.indexOf(thesis);
    }

    int serve() {
        change();
        List<Integer> stay = new ArrayList<>();
        for (int thesis : state.line) {
            try {
                int time = earliest(thesis);
                work(thesis).defence = new Defence(time % 10, time / 100, time / 10 % 10);
            } catch (NoSuchElementException e) {
                stay.add(thesis);
            }
        }
        int served = state.line.size() - stay.size();
        state.line = stay;
        return served;
    }

    int waiting(int place) {
        if (place < 0 || place >= state.line.size()) {
            throw new NoSuchElementException();
        }
        return state.line.get(place);
    }

    int pass(int days) {
        range(days, 1, 99);
        legal(state.today + days <= 400);
        change();
        int lost = 0;
        for (int i = 0; i < days; i++) {
            state.today++;
            for (Work work : state.works) {
                if (work.stage < 4 && work.defence != null
                        && work.defence.day - before(work, work.stage + 1) < state.today) {
                    work.defence = null;
                    lost++;
                }
            }
        }
        state.lost += lost;
        return lost;
    }

    int account(int account) {
        range(account, 0, 9);
        int[] accounts = new int[10];
        accounts[0] = state.people.size();
        accounts[1] = state.works.size();
        for (Work work : state.works) {
            accounts[2] += work.defence != null && work.stage < 4 ? 1 : 0;
            accounts[3] += work.stage == 4 ? 1 : 0;
            accounts[4] += work.members.size();
            accounts[5] += quorumHolds(work, work.members) ? 1 : 0;
        }
        accounts[6] = state.line.size();
        accounts[7] = state.today;
        accounts[8] = state.lost;
        for (int i = 0; i < state.people.size(); i++) {
            for (int j = 0; j < i; j++) {
                accounts[9] += state.people.get(i).enemies.contains(j) ? 1 : 0;
            }
        }
        return accounts[account];
    }

    double meanLoad() {
        if (state.people.isEmpty()) {
            throw new ArithmeticException();
        }
        int sum = 0;
        for (int i = 0; i < state.people.size(); i++) {
            sum += Integer.bitCount(person(i, 5));
        }
        return (double) sum / (double) state.people.size();
    }

    // ---- texts, history and saving

    int append(char character) {
        range(character, 32, 126);
        legal(input.length() < 60);
        input += character;
        return input.length();
    }

    int read() {
        String text = input;
        input = "";
        if (!TEXT.matcher(text).matches()) {
            keptError = errorIn(text);
            throw new IllegalArgumentException();
        }
        State before = state.copy();
        List<State> pastBefore = new ArrayList<>(past);
        int entries = 0;
        Matcher matcher = ENTRY.matcher(text);
        try {
            while (matcher.find()) {
                doEntry(matcher);
                entries++;
            }
        } catch (RuntimeException e) {
            state = before;
            past.clear();
            past.addAll(pastBefore);
            throw new IllegalStateException();
        }
        past.clear();
        past.addAll(pastBefore);
        remember(before);
        return entries;
    }

    private static int errorIn(String text) {
        for (int k = 0; k < text.length(); k++) {
            Matcher matcher = TEXT.matcher(text.substring(0, k + 1));
            if (!matcher.matches() && !matcher.hitEnd()) {
                return k;
            }
        }
        return text.length();
    }

    private void doEntry(Matcher entry) {
        if (entry.group(1) != null) {
            int thesis = Integer.parseInt(entry.group(2));
            int person = Integer.parseInt(entry.group(3));
            if (entry.group(1).equals("j")) {
                join(thesis, person);
            } else {
                leave(thesis, person);
            }
        } else if (entry.group(4) != null) {
            place(Integer.parseInt(entry.group(5)), Integer.parseInt(entry.group(6)),
                    Integer.parseInt(entry.group(7)), Integer.parseInt(entry.group(8)));
        } else if (entry.group(9) != null) {
            goOn(Integer.parseInt(entry.group(10)));
        } else {
            pass(Integer.parseInt(entry.group(12)));
        }
    }

    int errorPosition() {
        return kept(keptError);
    }

    int undo() {
        if (past.isEmpty()) {
            throw new NoSuchElementException();
        }
        state = past.removeLast();
        return past.size();
    }

    int save() {
        saved = state.copy();
        return saved.works.size();
    }

    int restore() {
        legal(saved != null);
        state = saved.copy();
        past.clear();
        return state.works.size();
    }

    // ---- what the calls share

    private void change() {
        remember(state.copy());
    }

    private void remember(State before) {
        past.addLast(before);
        if (past.size() > 6) {
            past.removeFirst();
        }
    }

    private Somebody somebody(int person) {
        exists(person, state.people.size());
        return state.people.get(person);
    }

    private Work work(int thesis) {
        exists(thesis, state.works.size());
        return state.works.get(thesis);
    }

    private static void exists(int number, int count) {
        if (number < 0 || number >= count) {
            throw new IndexOutOfBoundsException();
        }
    }

    private static void range(int number, int least, int greatest) {
        if (number < least || number > greatest) {
            throw new IllegalArgumentException();
        }
    }

    private static void legal(boolean isLegal) {
        if (!isLegal) {
            throw new IllegalStateException();
        }
    }

    private void refuse(int reason) {
        if (reason != 0) {
            keptReason = reason;
            throw new UnsupportedOperationException();
        }
    }

    private static int kept(Integer number) {
        if (number == null) {
            throw new NoSuchElementException();
        }
        return number;
    }

    private static Set<Integer> elements(int mask) {
        Set<Integer> set = new TreeSet<>();
        for (int i = 0; i < 32; i++) {
            if ((mask >> i & 1) == 1) {
                set.add(i);
            }
        }
        return set;
    }

    private static int mask(Iterable<Integer> set) {
        int mask = 0;
        for (int element : set) {
            mask |= 1 << element;
        }
        return mask;
    }
}
