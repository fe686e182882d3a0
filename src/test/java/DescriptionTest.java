import java.util.NoSuchElementException;

/** The sentences under "Description" that name bounds, one after the other. */
public final class DescriptionTest {

    private static final Class<IllegalArgumentException> ARGUMENT = IllegalArgumentException.class;
    private static final Class<IllegalStateException> STATE = IllegalStateException.class;
    private static final Class<NoSuchElementException> NONE = NoSuchElementException.class;
    private static final Class<UnsupportedOperationException> REFUSED = UnsupportedOperationException.class;

    private static final int[][] QUORUMS = {{3, 1, 0, 1, 0}, {4, 2, 1, 2, 1}, {5, 3, 1, 3, 2}};
    private static final int[][] DAYS_BEFORE = {{21, 10, 5, 0}, {28, 14, 7, 0}, {42, 21, 14, 0}};

    /** Whether the quorum of each kind holds with professors of the department alone. */
    private static final int[] QUORUM_HOLDS = {1, 0, 0};

    private interface Step {
        void on(CommitteePlanner planner);
    }

    public static void main(String[] args) {
        presentDay();
        hoursOfADay();
        persons();
        ranks();
        fields();
        departments();
        limits();
        conflicts();
        theses();
        for (int kind = 0; kind < 3; kind++) {
            quorum(kind);
            mostMembers(kind);
            deadlinesAndDays(kind);
        }
        rooms();
        for (int first = 0; first <= 6; first++) {
            twoHours(first);
        }
        for (int hour = 0; hour < 8; hour++) {
            busyHour(hour);
        }
        ownOldTime();
        stages();
        line();
        servedLine(0);
        servedLine(300);
        servedTooLate();
        texts();
        sixChanges();
        changesOfNothing();
        forgottenHistory();
        bitMasks();
        Check.end("DescriptionTest");
    }

    /** There is a present day from 0 to 400, at first 0. */
    private static void presentDay() {
        CommitteePlanner planner = new CommitteePlanner();
        Check.due("days: at first", 0, () -> planner.account(7));
        for (int i = 0; i < 3; i++) {
            planner.pass(99);
        }
        planner.pass(4);
        Check.due("days: 301", 301, () -> planner.account(7));
        planner.pass(1);
        Check.fails("days: 401", STATE, () -> planner.pass(99));
        Check.fails("days: 401, by a text", STATE, () -> Make.read(planner, "d99;"));
        Check.due("days: still 302", 302, () -> planner.account(7));
        Check.due("days: 400, by a text", 1, () -> Make.read(planner, "d98;"));
        Check.due("days: 400", 400, () -> planner.account(7));
        Check.fails("days: beyond 400", STATE, () -> planner.pass(1));
        Check.fails("days: beyond 400, by a text", STATE, () -> Make.read(planner, "d1;"));
        planner.undo();
        Check.due("days: 400 from 302", 0, () -> planner.pass(98));
        Check.due("days: 400 again", 400, () -> planner.account(7));
    }

    /** A day has 8 hours, numbered from 0. */
    private static void hoursOfADay() {
        int[] days = {0, 1, 6, 7, 8, 9, 63, 64, 199, 392, 399, 400};
        for (int day : days) {
            CommitteePlanner planner = Make.professors(2);
            for (int hour = 0; hour < 8; hour++) {
                int asked = hour;
                Check.due("hours: not busy yet", false, () -> planner.setBusy(1, day, asked, true));
            }
            Check.due("hours: eight of them", 8, () -> planner.person(1, 7));
            Check.fails("hours: below 0", ARGUMENT, () -> planner.setBusy(1, day, -1, true));
            Check.fails("hours: above 7", ARGUMENT, () -> planner.setBusy(1, day, 8, true));
            for (int hour = 0; hour <= 6; hour++) {
                int asked = hour;
                Check.due("hours: the day is full", false, () -> planner.isFree(1, day, asked));
                Check.due("hours: another person", true, () -> planner.isFree(0, day, asked));
                Check.due("hours: the day before", true, () -> planner.isFree(1, day == 0 ? 1 : day - 1, asked));
                Check.due("hours: the day after", true, () -> planner.isFree(1, day == 400 ? 399 : day + 1, asked));
            }
            for (int hour = 0; hour < 8; hour++) {
                int asked = hour;
                Check.due("hours: busy", true, () -> planner.setBusy(1, day, asked, false));
            }
            Check.due("hours: none of them", 0, () -> planner.person(1, 7));
        }
    }

    /** There are at most 14 persons, numbered from 0 in the order in which they came. */
    private static void persons() {
        CommitteePlanner planner = new CommitteePlanner();
        for (int i = 0; i < 14; i++) {
            int number = i;
            Check.due("persons: number", number,
                    () -> planner.addPerson(number % 3, number, number % 4, 1 + number % 6));
        }
        Check.fails("persons: a fifteenth", STATE, () -> planner.addPerson(0, 0, 0, 1));
        for (int i = 0; i < 14; i++) {
            int[] due = {i % 3, i, i % 4, 1 + i % 6};
            int number = i;
            for (int what = 0; what < 4; what++) {
                int asked = what;
                Check.due("persons: " + i, due[what], () -> planner.person(number, asked));
            }
        }
        planner.undo();
        Check.due("persons: a fourteenth again", 13, () -> planner.addPerson(0, 0, 0, 1));
    }

    /** A person has a rank, 0 professor, 1 doctor, 2 guest. */
    private static void ranks() {
        for (int rank = 0; rank < 3; rank++) {
            CommitteePlanner planner = new CommitteePlanner();
            planner.addPerson(1, 0, 0, 6);
            planner.addPerson(rank, 0, 0, 6);
            planner.addThesis(2, 0, 0, 0);
            planner.join(0, 1);
            Check.due("ranks: professors for " + rank, rank == 0 ? 2 : 3, () -> planner.lacks(0, 1));
            Check.due("ranks: guests for " + rank, rank == 2 ? 0 : 1, () -> planner.lacks(0, 2));
            Check.due("ranks: members for " + rank, 4, () -> planner.lacks(0, 0));
        }
    }

    /** Fields are numbered from 0 to 5; an expert is a member who has the field of the thesis. */
    private static void fields() {
        for (int field = 0; field < 6; field++) {
            for (int own = 0; own < 6; own++) {
                CommitteePlanner planner = new CommitteePlanner();
                planner.addPerson(0, 1 << own, 0, 6);
                planner.addPerson(0, 63 & ~(1 << own), 0, 6);
                planner.addPerson(0, 63, 0, 6);
                planner.addPerson(0, 0, 0, 6);
                planner.addThesis(2, field, 0, 3);
                planner.addThesis(0, field, 0, 3);
                boolean isExpert = own == field;
                planner.join(0, 0);
                Check.due("fields: only one", isExpert ? 2 : 3, () -> planner.lacks(0, 3));
                planner.join(0, 1);
                Check.due("fields: all but one", 2, () -> planner.lacks(0, 3));
                planner.join(0, 2);
                Check.due("fields: all", 1, () -> planner.lacks(0, 3));
                planner.join(1, 3);
                Check.due("fields: none", 1, () -> planner.lacks(1, 3));
                planner.join(1, 0);
                Check.due("fields: enough", isExpert ? 0 : 1, () -> planner.lacks(1, 3));
            }
        }
    }

    /** A department from 0 to 3; a stranger is one whose department is not that of the thesis. */
    private static void departments() {
        for (int department = 0; department < 4; department++) {
            for (int own = 0; own < 4; own++) {
                CommitteePlanner planner = new CommitteePlanner();
                planner.addPerson(0, 0, department, 6);
                planner.addPerson(0, 0, own, 6);
                planner.addThesis(2, 0, department, 0);
                planner.join(0, 1);
                Check.due("departments: " + own + " in " + department, own == department ? 2 : 1,
                        () -> planner.lacks(0, 4));
            }
        }
    }

    /** A limit from 1 to 6, which is the greatest number of committees in which the person can be. */
    private static void limits() {
        for (int limit = 1; limit <= 6; limit++) {
            CommitteePlanner planner = new CommitteePlanner();
            planner.addPerson(0, 1, 0, limit);
            for (int i = 0; i < 8; i++) {
                planner.addThesis(0, 0, 0, 0);
            }
            for (int i = 0; i < limit; i++) {
                int thesis = 7 - i;
                Check.due("limits: below " + limit, 1, () -> planner.join(thesis, 0));
            }
            Check.fails("limits: at " + limit, REFUSED, () -> planner.join(0, 0));
            Check.due("limits: reason", 5, planner::reason);
            Check.fails("limits: no completion", NONE, () -> planner.completion(0));
            planner.leave(7, 0);
            Check.due("limits: below " + limit + " again", 1, () -> planner.join(0, 0));
        }
    }

    /** Two persons can be in conflict with each other. */
    private static void conflicts() {
        CommitteePlanner planner = Make.professors(14);
        Check.due("conflicts: were not", false, () -> planner.setConflict(13, 0, true));
        Check.due("conflicts: of the one", 1, () -> planner.person(13, 4));
        Check.due("conflicts: of the other", 1 << 13, () -> planner.person(0, 4));
        Check.due("conflicts: were", true, () -> planner.setConflict(0, 13, true));
        Check.due("conflicts: one pair", 1, () -> planner.account(9));
        Check.due("conflicts: of nobody else", 0, () -> planner.person(12, 4) + planner.person(1, 4));
        planner.addThesis(0, 0, 0, 0);
        Check.due("conflicts: with the supervisor", 3, () -> planner.whyNotJoin(0, 13));
        planner.addThesis(0, 0, 0, 1);
        planner.join(1, 13);
        Check.due("conflicts: with a member", 4, () -> planner.whyNotJoin(1, 0));
        Check.due("conflicts: were, and are not", true, () -> planner.setConflict(13, 0, false));
        Check.due("conflicts: not any more", 0, () -> planner.person(13, 4) + planner.person(0, 4));
        Check.due("conflicts: no pair", 0, () -> planner.account(9));
        Check.due("conflicts: none with the supervisor", 0, () -> planner.whyNotJoin(0, 13));
        Check.due("conflicts: none with a member", 0, () -> planner.whyNotJoin(1, 0));
    }

    /** There are at most 8 theses, numbered from 0; a committee is empty, and the stage 0, at first. */
    private static void theses() {
        CommitteePlanner planner = Make.professors(8);
        for (int i = 0; i < 8; i++) {
            int number = i;
            Check.due("theses: number", number,
                    () -> planner.addThesis(number % 3, number % 6, number % 4, 7 - number));
        }
        Check.fails("theses: a ninth", STATE, () -> planner.addThesis(0, 0, 0, 0));
        for (int i = 0; i < 8; i++) {
            int[] due = {i % 3, i % 6, i % 4, 7 - i, 0, 0, -1, -1, -1, 0, 5 + i % 3};
            int number = i;
            for (int what = 0; what < due.length; what++) {
                int asked = what;
                Check.due("theses: " + i, due[what], () -> planner.thesis(number, asked));
            }
        }
        planner.undo();
        Check.due("theses: an eighth again", 7, () -> planner.addThesis(0, 0, 0, 0));
    }

    /**
     * Thesis 0, of a kind, with just as many members, professors, guests, experts and strangers; its
     * supervisor is the last person.
     */
    private static CommitteePlanner committee(int kind, int[] numbers) {
        CommitteePlanner planner = new CommitteePlanner();
        for (int i = 0; i < numbers[0]; i++) {
            int rank = i < numbers[1] ? 0 : i < numbers[1] + numbers[2] ? 2 : 1;
            planner.addPerson(rank, i < numbers[3] ? 1 << 4 : 63 - (1 << 4), i >= numbers[0] - numbers[4] ? 3 : 2, 6);
        }
        planner.addPerson(1, 0, 2, 6);
        planner.addThesis(kind, 4, 2, numbers[0]);
        for (int i = 0; i < numbers[0]; i++) {
            planner.join(0, i);
        }
        return planner;
    }

    /** The quorum holds if the committee has at least as many of each. */
    private static void quorum(int kind) {
        int[] quorum = QUORUMS[kind];
        CommitteePlanner exact = committee(kind, quorum);
        for (int what = 0; what < 5; what++) {
            int asked = what;
            Check.due("quorums: nothing lacks", 0, () -> exact.lacks(0, asked));
        }
        Check.due("quorums: it holds", 1, () -> exact.account(5));
        Check.due("quorums: it can be placed", 0, () -> exact.whyNotPlace(0, 0, 100, 0));
        Check.due("quorums: nobody is needed", 0, () -> exact.completion(0));
        for (int what = 0; what < 5; what++) {
            if (quorum[what] > 0) {
                oneTooFew(kind, what);
            }
        }
        CommitteePlanner more = committee(kind, new int[] {quorum[0] + 2, quorum[1] + 1, quorum[2] + 1,
            quorum[3] + 1, quorum[4] + 1});
        for (int what = 0; what < 5; what++) {
            int asked = what;
            Check.due("quorums: more than needed", 0, () -> more.lacks(0, asked));
        }
        Check.due("quorums: more than needed, it holds", 1, () -> more.account(5));
    }

    private static void oneTooFew(int kind, int what) {
        int[] numbers = QUORUMS[kind].clone();
        numbers[what]--;
        CommitteePlanner planner = committee(kind, numbers);
        for (int asked = 0; asked < 5; asked++) {
            int number = asked;
            Check.due("quorums: lacks one of " + what, number == what ? 1 : 0, () -> planner.lacks(0, number));
        }
        Check.due("quorums: it does not hold", 0, () -> planner.account(5));
        Check.due("quorums: it cannot be placed", 9, () -> planner.whyNotPlace(0, 0, 100, 0));
        Check.fails("quorums: there is no earliest time", NONE, () -> planner.earliest(0));
        Check.due("quorums: not with a member in its own place", 0, () -> planner.replace(0, 0, 0));
    }

    /** A committee has at most two members more than its quorum needs members. */
    private static void mostMembers(int kind) {
        CommitteePlanner planner = Make.professors(14);
        planner.addThesis(kind, 0, 0, 13);
        int most = QUORUMS[kind][0] + 2;
        Check.due("most members: told", most, () -> planner.thesis(0, 10));
        for (int i = 0; i < most; i++) {
            int number = i;
            Check.due("most members: room for one more", number + 1, () -> planner.join(0, number));
        }
        Check.fails("most members: no room", REFUSED, () -> planner.join(0, 12));
        Check.due("most members: reason", 6, planner::reason);
        planner.leave(0, 0);
        Check.due("most members: room again", most, () -> planner.join(0, 12));
        Check.due("most members: room in the place of another", QUORUM_HOLDS[kind], () -> planner.replace(0, 12, 11));
        Check.due("most members: no room for the one who left", 6, () -> planner.whyNotJoin(0, 12));
    }

    /** The deadlines of each stage: a place is kept on the day of the next one and lost on the day behind it. */
    private static void deadlinesAndDays(int kind) {
        for (int stage = 0; stage < 4; stage++) {
            int now = stage;
            int before = DAYS_BEFORE[kind][stage];
            Check.Maker maker = () -> {
                CommitteePlanner planner = committee(kind, QUORUMS[kind]);
                planner.place(0, 1, 100, 0);
                Make.goOn(planner, 0, now);
                planner.place(0, 2, before + 3, 6);
                return planner;
            };
            CommitteePlanner planner = maker.make();
            for (int asked = 1; asked <= 4; asked++) {
                int of = asked;
                Check.due("deadlines: of stage " + of, before + 3 - DAYS_BEFORE[kind][of - 1],
                        () -> planner.deadline(0, of));
            }
            Check.due("deadlines: days until the next one", 3, planner::mostUrgent);
            Check.due("days pass: up to the day of the deadline", 0, () -> planner.pass(3));
            Check.due("days pass: the place is kept", 2, () -> planner.thesis(0, 6));
            Check.due("days pass: to the day behind the deadline", 1, () -> planner.pass(1));
            Check.due("days pass: the place is lost", -1, () -> planner.thesis(0, 6));
            Check.due("days pass: the stage is kept", now, () -> planner.thesis(0, 4));
            Check.due("days pass: it is lost once", 0, () -> planner.pass(50));
            Check.due("days pass: one in all", 1, () -> planner.account(8));
            Check.due("days pass: at once", 1, () -> maker.make().pass(4));
            Check.due("days pass: far at once", 1, () -> maker.make().pass(99));
            CommitteePlanner read = maker.make();
            Make.read(read, "d1;d02;");
            Check.due("days pass: by a text, kept", before + 3, () -> read.thesis(0, 7));
            Make.read(read, "d001;");
            Check.due("days pass: by a text, lost", -1, () -> read.thesis(0, 7));
            Check.due("days pass: by a text, one in all", 1, () -> read.account(8));
        }
    }

    /** There are 3 rooms, numbered from 0. */
    private static void rooms() {
        CommitteePlanner planner = Make.professors(13);
        for (int i = 0; i < 4; i++) {
            planner.addThesis(0, 0, 0, 12);
            Make.join(planner, i, 3 * i, 3 * i + 1, 3 * i + 2);
        }
        for (int i = 0; i < 3; i++) {
            int room = 2 - i;
            int thesis = i;
            Check.due("rooms: " + room, 9, () -> planner.place(thesis, room, 30, 3));
        }
        for (int room = 0; room < 3; room++) {
            int asked = room;
            Check.due("rooms: who is in " + room, 2 - room, () -> planner.inRoom(asked, 30, 4));
            Check.due("rooms: no room in " + room, 10, () -> planner.whyNotPlace(3, asked, 30, 4));
        }
        Check.fails("rooms: no room 3", IndexOutOfBoundsException.class, () -> planner.place(3, 3, 30, 4));
    }

    /** A defence takes two hours, its first one from 0 to 6. */
    private static void twoHours(int first) {
        CommitteePlanner planner = Make.professors(10);
        for (int i = 0; i < 3; i++) {
            planner.addThesis(0, 0, 0, 9);
        }
        Make.join(planner, 0, 0, 1, 2);
        Make.join(planner, 1, 2, 3, 4);
        Make.join(planner, 2, 5, 6, 7);
        planner.place(0, 1, 50, first);
        for (int i = 0; i < 8; i++) {
            int hour = i;
            boolean isTaken = hour == first || hour == first + 1;
            Check.due("two hours: the room in hour " + hour, isTaken ? "0" : NONE.getName(),
                    () -> Check.outcome(() -> planner.inRoom(1, 50, hour)));
        }
        for (int i = 0; i <= 6; i++) {
            int hour = i;
            boolean meets = Math.abs(hour - first) < 2;
            Check.due("two hours: a member", !meets, () -> planner.isFree(2, 50, hour));
            Check.due("two hours: not a member", true, () -> planner.isFree(3, 50, hour));
            Check.due("two hours: another day", true, () -> planner.isFree(2, 49, hour));
            Check.due("two hours: in common, another room", meets ? 11 : 0, () -> planner.whyNotPlace(1, 2, 50, hour));
            Check.due("two hours: in common, the same room", meets ? 10 : 0, () -> planner.whyNotPlace(1, 1, 50, hour));
            Check.due("two hours: nobody, the same room", meets ? 10 : 0, () -> planner.whyNotPlace(2, 1, 50, hour));
            Check.due("two hours: nobody, another room", 0, () -> planner.whyNotPlace(2, 0, 50, hour));
            Check.due("two hours: the same room, another day", 0, () -> planner.whyNotPlace(1, 1, 51, hour));
            planner.place(2, 2, 50, hour);
            Check.due("two hours: who could join", meets ? 7 : 0, () -> planner.whyNotJoin(2, 2));
            Check.due("two hours: who has no other defence", 0, () -> planner.whyNotJoin(2, 3));
            planner.takeBack(2);
        }
    }

    /** A person is free at a time if the person is not busy in one of these hours. */
    private static void busyHour(int busy) {
        CommitteePlanner planner = Make.committee();
        planner.setBusy(1, 400, busy, true);
        planner.setBusy(4, 400, busy, true);
        for (int i = 0; i <= 6; i++) {
            int hour = i;
            boolean meets = hour == busy || hour + 1 == busy;
            Check.due("busy hours: free", !meets, () -> planner.isFree(1, 400, hour));
            Check.due("busy hours: to place", meets ? 11 : 0, () -> planner.whyNotPlace(0, 0, 400, hour));
            planner.setBusy(1, 400, busy, false);
            planner.place(0, 0, 400, hour);
            planner.setBusy(1, 400, busy, true);
            Check.due("busy hours: to join", meets ? 7 : 0, () -> planner.whyNotJoin(0, 4));
            planner.takeBack(0);
        }
    }

    /** A defence that is placed already gets the new place; its own old time does not matter. */
    private static void ownOldTime() {
        for (int hour = 0; hour <= 6; hour++) {
            for (int room = 0; room < 3; room++) {
                int newHour = hour;
                int newRoom = room;
                CommitteePlanner planner = Make.committee();
                planner.place(0, 1, 21, 3);
                Check.due("own old time: to place", 0, () -> planner.whyNotPlace(0, newRoom, 21, newHour));
                Check.due("own old time: earliest", 2100, () -> planner.earliest(0));
                Check.due("own old time: placed", 0, () -> planner.place(0, newRoom, 21, newHour));
                Check.due("own old time: one defence", 1, () -> planner.account(2));
                int taken = 0;
                for (int i = 0; i < 24; i++) {
                    int asked = i;
                    taken += Check.outcome(() -> planner.inRoom(asked % 3, 21, asked / 3)).equals("0") ? 1 : 0;
                }
                Check.same("own old time: two hours of one room", 2, taken);
                Check.due("own old time: the new hour", 0, () -> planner.inRoom(newRoom, 21, newHour));
            }
        }
    }

    /** A thesis goes on only if its defence is placed, and to the stage 4 only on the day of its defence. */
    private static void stages() {
        CommitteePlanner planner = Make.committee();
        for (int stage = 0; stage < 3; stage++) {
            int next = stage + 1;
            Check.fails("stages: not placed", STATE, () -> planner.goOn(0));
            planner.place(0, 0, 30, 0);
            Check.due("stages: placed", next, () -> planner.goOn(0));
            Check.due("stages: told", next, () -> planner.thesis(0, 4));
            planner.takeBack(0);
        }
        Check.fails("stages: announced, not placed", STATE, () -> planner.goOn(0));
        planner.place(0, 0, 30, 0);
        planner.pass(29);
        Check.fails("stages: a day ahead", STATE, () -> planner.goOn(0));
        planner.pass(1);
        planner.place(0, 0, 31, 0);
        Check.fails("stages: put off by a day", STATE, () -> planner.goOn(0));
        planner.place(0, 0, 30, 6);
        Check.due("stages: on the day", 4, () -> planner.goOn(0));
        Check.fails("stages: defended", STATE, () -> planner.goOn(0));
    }

    /** There is a line of waiting theses, in the order in which they came; a thesis is in it once at most. */
    private static void line() {
        CommitteePlanner planner = Make.professors(4);
        for (int i = 0; i < 8; i++) {
            planner.addThesis(0, 0, 0, 3);
        }
        int[] order = {3, 0, 7, 5, 1, 6, 2, 4};
        for (int i = 0; i < 8; i++) {
            int place = i;
            Check.due("line: not waiting", 0, () -> planner.thesis(order[place], 9));
            Check.due("line: await", place, () -> planner.await(order[place]));
            Check.due("line: waiting", 1, () -> planner.thesis(order[place], 9));
        }
        for (int i = 0; i < 8; i++) {
            int place = i;
            Check.due("line: await again", place, () -> planner.await(order[place]));
            Check.due("line: the place of each", order[place], () -> planner.waiting(place));
        }
        Check.due("line: full", 8, () -> planner.account(6));
        Check.fails("line: its end", NONE, () -> planner.waiting(8));
        Check.due("line: none can be placed", 0, planner::serve);
        Check.due("line: all stay", 8, () -> planner.account(6));
    }

    /** From the first one to the last one, each is placed at its earliest time; those without one stay. */
    private static void servedLine(int today) {
        CommitteePlanner planner = Make.professors(13);
        for (int i = 0; i < 6; i++) {
            planner.addThesis(0, 0, 0, 12);
        }
        for (int i = 0; i < 4; i++) {
            Make.join(planner, i, 3 * i, 3 * i + 1, 3 * i + 2);
        }
        int[] order = {5, 3, 2, 4, 1, 0};
        for (int thesis : order) {
            planner.await(thesis);
        }
        Make.passTo(planner, today);
        Check.due("serve: four of six", 4, planner::serve);
        int[] hoursAndRooms = {20, 2, 1, 0};
        for (int i = 0; i < 4; i++) {
            int thesis = i;
            Check.due("serve: the time of " + thesis, 100 * (today + 21) + hoursAndRooms[thesis],
                    () -> timeOf(planner, thesis));
            Check.due("serve: it has left the line", 0, () -> planner.thesis(thesis, 9));
        }
        Check.due("serve: the first one that stays", 5, () -> planner.waiting(0));
        Check.due("serve: the next one that stays", 4, () -> planner.waiting(1));
        Check.fails("serve: the end of the line", NONE, () -> planner.waiting(2));
        planner.takeBack(3);
        Check.due("serve: at the end when it comes again", 2, () -> planner.await(3));
        Check.due("serve: one of three", 1, planner::serve);
        Check.due("serve: the same time again", 100 * (today + 21), () -> timeOf(planner, 3));
        planner.takeBack(3);
        planner.await(3);
        planner.setBusy(9, today + 21, 1, true);
        planner.pass(1);
        Check.due("serve: a day on", 1, planner::serve);
        Check.due("serve: the day after", 100 * (today + 22), () -> timeOf(planner, 3));
    }

    /** Those for which there is no time up to day 400 stay. */
    private static void servedTooLate() {
        CommitteePlanner planner = Make.committee();
        planner.await(0);
        for (int i = 0; i < 4; i++) {
            planner.pass(95);
        }
        Check.due("serve: too late by a day", 0, planner::serve);
        Check.due("serve: it waits", 1, () -> planner.thesis(0, 9));
        Check.due("serve: it has no place", -1, () -> planner.thesis(0, 6));
        planner.undo();
        planner.undo();
        planner.pass(94);
        Check.due("serve: on the last day", 1, planner::serve);
        Check.due("serve: its time", 40000, () -> timeOf(planner, 0));
    }

    private static int timeOf(CommitteePlanner planner, int thesis) {
        return 100 * planner.thesis(thesis, 7) + 10 * planner.thesis(thesis, 8) + planner.thesis(thesis, 6);
    }

    /** Numbers of one to three digits, where zeros at the front are allowed; at most 60 characters. */
    private static void texts() {
        String[] right = {"d1;", "d01;", "d001;", "d99;", "d099;", "j0,3;", "j0,03;", "j0,003;", "l0,0;", "l0,00;",
            "l0,000;", "p0@0,40,0;", "p0@2,040,6;", "p0@1,400,6;", "n0;", "d1;d1;", "d1;n0;j0,3;l0,0;p0@0,40,0;"};
        for (String text : right) {
            int entries = (int) text.chars().filter(sign -> sign == ';').count();
            Check.due("texts: " + text, entries, () -> Make.read(Make.defence(), text));
        }
        String[] wrong = {"d1", "d;", "d0001;", "d1,", "D1;", "j0;", "j0,;", "j0,0003;", "j00,3;", "j,3;", "l0.0;",
            "p0@0,40,00;", "p0@00,40,0;", "p0@0,0040,0;", "p0,0,40,0;", "p0@0@40@0;", "p0@0,40;", "n;", "n00;",
            "n0,0;", "d1;;", "d1; d1;", " d1;", "d1;d", "d+1;", "j0,-3;", "d1;n0", ";", "0;", "a0;"};
        for (String text : wrong) {
            Check.fails("texts: " + text, ARGUMENT, () -> Make.read(Make.defence(), text));
        }
        CommitteePlanner planner = Make.defence();
        String full = "d1;".repeat(19) + "d2;";
        Make.type(planner, full);
        Check.fails("texts: a sixty-first character", STATE, () -> planner.append(';'));
        Check.due("texts: 60 characters", 20, planner::read);
        Check.due("texts: 21 days", 21, () -> planner.account(7));
    }

    /** For at most 6 changes, of which the oldest one is forgotten for good when there would be more. */
    private static void sixChanges() {
        for (int changes = 0; changes <= 15; changes++) {
            CommitteePlanner planner = new CommitteePlanner();
            for (int i = 0; i < changes; i++) {
                planner.pass(1);
            }
            int left = changes;
            for (int remembered = Math.min(6, changes); remembered > 0; remembered--) {
                int then = remembered - 1;
                Check.due("history: undo of " + changes, then, planner::undo);
                left--;
                int day = left;
                Check.due("history: the day", day, () -> planner.account(7));
            }
            Check.fails("history: no more of " + changes, NONE, planner::undo);
            Check.due("history: the oldest day", left, () -> planner.account(7));
        }
        CommitteePlanner planner = new CommitteePlanner();
        for (int i = 0; i < 8; i++) {
            planner.pass(1);
        }
        planner.undo();
        planner.undo();
        for (int i = 0; i < 3; i++) {
            planner.pass(10);
        }
        for (int left = 5; left >= 0; left--) {
            int then = left;
            Check.due("history: forgotten for good", then, planner::undo);
        }
        Check.due("history: three days of the first ones", 3, () -> planner.account(7));
        Check.fails("history: six only", NONE, planner::undo);
    }

    /** A change is a call that returns without an exception, also if nothing is different then. */
    private static void changesOfNothing() {
        Step[] steps = {p -> p.setConflict(0, 1, false), p -> p.setConflict(6, 5, true), p -> p.setBusy(0, 9, 7, false),
            p -> p.setBusy(6, 9, 7, true), p -> p.replace(0, 0, 0), p -> p.complete(0), p -> p.place(0, 0, 30, 2),
            p -> p.await(1), p -> Make.read(p, "j2,0;l2,0;"), p -> Make.read(p, "p0@0,30,2;"),
            p -> Make.read(p, "l2,7;j2,7;l2,7;j2,7;")};
        for (int i = 0; i < steps.length; i++) {
            CommitteePlanner planner = forgetful();
            String before = Sight.ofState(planner);
            steps[i].on(planner);
            Check.same("history: step " + i + " changes nothing", before, Sight.ofState(planner));
            Check.due("history: step " + i + " is a change", 0, planner::undo);
            Check.same("history: undo of step " + i, before, Sight.ofState(planner));
        }
        CommitteePlanner empty = new CommitteePlanner();
        empty.serve();
        Check.due("history: serving nobody is a change", 0, empty::undo);
        CommitteePlanner waiting = Make.rich();
        waiting.leave(1, 3);
        waiting.save();
        waiting.restore();
        Check.due("history: one waits and stays", 0, waiting::serve);
        Check.due("history: serving in vain is a change", 0, waiting::undo);
    }

    /** A planner as rich, with an empty input and without history. */
    private static CommitteePlanner forgetful() {
        CommitteePlanner planner = Make.rich();
        Check.outcome(planner::read);
        planner.join(2, 7);
        planner.save();
        planner.restore();
        return planner;
    }

    /** clear and restore forget all of them. */
    private static void forgottenHistory() {
        CommitteePlanner planner = Make.rich();
        planner.clear();
        Check.fails("history: forgotten by clear", NONE, planner::undo);
        Check.due("history: clear is not undone", 0, () -> planner.account(0));
        planner.addPerson(0, 0, 0, 1);
        Check.due("history: the change behind clear", 0, planner::undo);
        planner.addPerson(0, 0, 0, 1);
        planner.restore();
        Check.fails("history: forgotten by restore", NONE, planner::undo);
        Check.due("history: restore is not undone", 8, () -> planner.account(0));
        planner.pass(1);
        Check.due("history: the change behind restore", 0, planner::undo);
        Check.due("history: day 0", 0, () -> planner.account(7));
    }

    /** Sets are bit masks, bit k for number k. */
    private static void bitMasks() {
        CommitteePlanner planner = new CommitteePlanner();
        for (int i = 0; i < 14; i++) {
            planner.addPerson(0, i == 13 ? 1 << 5 : 1, 0, 6);
        }
        for (int i = 0; i < 8; i++) {
            planner.addThesis(0, 5, 0, i == 7 ? 13 : 0);
        }
        Make.join(planner, 7, 11, 12, 13);
        Check.due("bit masks: fields", 32, () -> planner.person(13, 1));
        Check.due("bit masks: members", 7 << 11, () -> planner.thesis(7, 5));
        Check.due("bit masks: committees", 128, () -> planner.person(13, 5));
        Check.due("bit masks: supervised", 128, () -> planner.person(13, 6));
        Check.due("bit masks: supervised", 127, () -> planner.person(0, 6));
        planner.setConflict(13, 12, true);
        Check.due("bit masks: conflicts", 1 << 13, () -> planner.person(12, 4));
        Check.due("bit masks: replacements", (1 << 11) - 1, () -> planner.replacements(7, 11));
        Check.due("bit masks: completion", 1 << 13 | 3, () -> planner.completion(0));
    }
}
