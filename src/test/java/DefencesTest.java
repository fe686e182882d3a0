import java.util.NoSuchElementException;

/** Promises 20 to 27: defences and deadlines. */
public final class DefencesTest {

    private static final Class<IllegalArgumentException> ARGUMENT = IllegalArgumentException.class;
    private static final Class<IllegalStateException> STATE = IllegalStateException.class;
    private static final Class<IndexOutOfBoundsException> INDEX = IndexOutOfBoundsException.class;
    private static final Class<NoSuchElementException> NONE = NoSuchElementException.class;
    private static final Class<UnsupportedOperationException> REFUSED = UnsupportedOperationException.class;

    public static void main(String[] args) {
        promise20();
        reasonsToRefusePlace();
        deadlinesOfPlaces();
        promise21();
        promise22();
        promise23();
        earliestAmongOthers();
        promise24();
        promise25();
        promise26();
        promise27();
        Check.end("DefencesTest");
    }

    /** Theses 0 and 1 of kind 0 with three members each, all of them other persons. */
    private static CommitteePlanner twoCommittees() {
        CommitteePlanner planner = Make.professors(8);
        planner.addThesis(0, 0, 0, 7);
        planner.addThesis(0, 0, 0, 7);
        Make.join(planner, 0, 0, 1, 2);
        Make.join(planner, 1, 3, 4, 5);
        return planner;
    }

    /** A thesis of each kind, 0 to 2, all with a quorum, with no member in common. */
    private static CommitteePlanner kinds() {
        CommitteePlanner planner = new CommitteePlanner();
        int person = 0;
        for (int kind = 0; kind < 3; kind++) {
            for (int i = 0; i < 3 + kind; i++) {
                planner.addPerson(i == 2 ? 2 : 0, 1, i % 2, 6);
            }
        }
        planner.addPerson(1, 0, 0, 6);
        for (int kind = 0; kind < 3; kind++) {
            planner.addThesis(kind, 0, 0, 12);
            for (int i = 0; i < 3 + kind; i++) {
                planner.join(kind, person++);
            }
        }
        return planner;
    }

    private static void promise20() {
        CommitteePlanner planner = Make.committee();
        Check.due("20: place", 9, () -> planner.place(0, 0, 30, 2));
        Check.due("20: room", 0, () -> planner.thesis(0, 6));
        Check.due("20: the new place", 379, () -> planner.place(0, 2, 400, 6));
        Check.due("20: new room", 2, () -> planner.thesis(0, 6));
        Check.due("20: new day", 400, () -> planner.thesis(0, 7));
        Check.due("20: new hour", 6, () -> planner.thesis(0, 8));
        Check.fails("20: the old one is left", NONE, () -> planner.inRoom(0, 30, 2));
        Check.due("20: one hour on", 379, () -> planner.place(0, 2, 400, 5));
        Check.due("20: the same again", 379, () -> planner.place(0, 2, 400, 5));
        Check.due("20: the same again is a change", 5, planner::undo);
        Check.due("20: the first day", 0, () -> planner.place(0, 1, 21, 0));
        Check.fails("20: no such thesis", INDEX, () -> planner.place(1, 0, 30, 0));
        Check.fails("20: no such room", INDEX, () -> planner.place(0, 3, 401, 0));
        Check.fails("20: no such room", INDEX, () -> planner.place(0, -1, 30, 0));
        int[][] wrong = {{-1, 0}, {401, 0}, {30, -1}, {30, 7}, {Integer.MAX_VALUE, Integer.MIN_VALUE}};
        for (int[] a : wrong) {
            Check.fails("20: out of range", ARGUMENT, () -> planner.place(0, 0, a[0], a[1]));
        }
    }

    private static void refusedPlace(CommitteePlanner planner, int thesis, int room, int day, int hour, int reason) {
        int oldDay = planner.thesis(thesis, 7);
        Check.due("22: whyNotPlace", reason, () -> planner.whyNotPlace(thesis, room, day, hour));
        Check.fails("20: refused for " + reason, REFUSED, () -> planner.place(thesis, room, day, hour));
        Check.due("19: reason", reason, planner::reason);
        Check.due("20: refused, the place stays", oldDay, () -> planner.thesis(thesis, 7));
    }

    private static void reasonsToRefusePlace() {
        CommitteePlanner planner = twoCommittees();
        planner.place(0, 1, 30, 3);
        refusedPlace(planner, 1, 1, 30, 2, 10);
        refusedPlace(planner, 1, 1, 30, 3, 10);
        refusedPlace(planner, 1, 1, 30, 4, 10);
        Check.due("22: ahead in the room", 0, () -> planner.whyNotPlace(1, 1, 30, 1));
        Check.due("22: behind in the room", 0, () -> planner.whyNotPlace(1, 1, 30, 5));
        Check.due("22: another room", 0, () -> planner.whyNotPlace(1, 0, 30, 3));
        Check.due("22: another day", 0, () -> planner.whyNotPlace(1, 1, 31, 3));
        Check.due("22: its own old time", 0, () -> planner.whyNotPlace(0, 1, 30, 4));
        planner.setBusy(4, 30, 5, true);
        refusedPlace(planner, 1, 0, 30, 5, 11);
        refusedPlace(planner, 1, 0, 30, 4, 11);
        refusedPlace(planner, 1, 1, 30, 4, 10);
        Check.due("22: behind the busy hour", 0, () -> planner.whyNotPlace(1, 1, 30, 6));
        planner.join(1, 0);
        refusedPlace(planner, 1, 0, 30, 2, 11);
        Check.due("22: ahead of the member's defence", 0, () -> planner.whyNotPlace(1, 0, 30, 1));
        refusedPlace(planner, 1, 0, 20, 2, 12);
        planner.setBusy(4, 20, 2, true);
        refusedPlace(planner, 1, 0, 20, 2, 11);
        Make.join(planner, 0, 3);
        planner.leave(1, 0);
        planner.leave(1, 3);
        refusedPlace(planner, 1, 1, 30, 3, 9);
        CommitteePlanner room = Make.professors(10);
        for (int i = 0; i < 3; i++) {
            room.addThesis(0, 0, 0, 9);
            Make.join(room, i, 3 * i, 3 * i + 1, 3 * i + 2);
        }
        room.place(0, 1, 30, 0);
        room.place(1, 1, 30, 4);
        refusedPlace(room, 2, 1, 30, 1, 10);
        refusedPlace(room, 2, 1, 30, 5, 10);
        Check.due("20: between two defences", 9, () -> room.place(2, 1, 30, 2));
        CommitteePlanner done = Make.defended();
        refusedPlace(done, 0, 0, 60, 0, 8);
        done.addThesis(0, 0, 0, 5);
        Make.join(done, 1, 3, 4, 5);
        refusedPlace(done, 1, 0, 30, 2, 10);
        done.setBusy(3, 60, 1, true);
        refusedPlace(done, 1, 2, 60, 0, 11);
        done.join(1, 0);
        refusedPlace(done, 1, 2, 30, 3, 11);
    }

    private static void deadlinesOfPlaces() {
        int[][] before = {{21, 10, 5, 0}, {28, 14, 7, 0}, {42, 21, 14, 0}};
        CommitteePlanner planner = kinds();
        for (int kind = 0; kind < 3; kind++) {
            int thesis = kind;
            for (int stage = 0; stage < 4; stage++) {
                int first = before[kind][stage];
                if (first > 0) {
                    refusedPlace(planner, thesis, kind, first - 1, 0, 12);
                }
                Check.due("20: on the day of the deadline", 0, () -> planner.place(thesis, thesis, first, 0));
                Check.due("20: a day behind", 1, () -> planner.place(thesis, thesis, first + 1, 0));
                if (stage < 3) {
                    planner.goOn(thesis);
                }
            }
        }
    }

    private static void promise21() {
        CommitteePlanner planner = Make.defence();
        Check.due("21: takeBack", 30, () -> planner.takeBack(0));
        for (int what = 6; what <= 8; what++) {
            int asked = what;
            Check.due("21: no place", -1, () -> planner.thesis(0, asked));
        }
        Check.due("21: members stay", 7, () -> planner.thesis(0, 5));
        Check.due("21: not lost by days", 0, () -> planner.account(8));
        Check.fails("21: not placed", STATE, () -> planner.takeBack(0));
        Check.fails("21: no such thesis", INDEX, () -> planner.takeBack(1));
        planner.undo();
        Check.due("21: undone", 30, () -> planner.thesis(0, 7));
        CommitteePlanner done = Make.defended();
        Check.fails("21: defended", STATE, () -> done.takeBack(0));
    }

    private static void promise22() {
        CommitteePlanner planner = Make.committee();
        Check.due("22: could be placed", 0, () -> planner.whyNotPlace(0, 0, 30, 0));
        Check.due("22: only a question", 12, () -> planner.whyNotPlace(0, 0, 3, 0));
        Check.fails("22: keeps no reason", NONE, planner::reason);
        Check.fails("22: no such thesis", INDEX, () -> planner.whyNotPlace(1, 0, 0, 0));
        Check.fails("22: no such room", INDEX, () -> planner.whyNotPlace(0, 3, -1, 0));
        Check.fails("22: day out of range", ARGUMENT, () -> planner.whyNotPlace(0, 0, 401, 0));
        Check.fails("22: day out of range", ARGUMENT, () -> planner.whyNotPlace(0, 0, -1, 0));
        Check.fails("22: hour out of range", ARGUMENT, () -> planner.whyNotPlace(0, 0, 0, 7));
        Check.fails("22: hour out of range", ARGUMENT, () -> planner.whyNotPlace(0, 0, 0, -1));
    }

    private static void promise23() {
        CommitteePlanner planner = Make.committee();
        Check.due("23: earliest", 2100, () -> planner.earliest(0));
        planner.setBusy(0, 21, 1, true);
        Check.due("23: a busy hour", 2120, () -> planner.earliest(0));
        planner.setBusy(1, 21, 3, true);
        planner.setBusy(2, 21, 5, true);
        Check.due("23: the last hour", 2160, () -> planner.earliest(0));
        planner.setBusy(2, 21, 7, true);
        Check.due("23: the next day", 2200, () -> planner.earliest(0));
        planner.place(0, 0, 22, 0);
        Check.due("23: its own old time does not matter", 2200, () -> planner.earliest(0));
        planner.pass(1);
        Check.due("23: with the present day", 2200, () -> planner.earliest(0));
        planner.goOn(0);
        Check.due("23: with the stage", 1100, () -> planner.earliest(0));
        Check.fails("23: no such thesis", INDEX, () -> planner.earliest(1));
        Check.fails("23: no such thesis", INDEX, () -> planner.earliest(-1));
        planner.addThesis(0, 0, 0, 0);
        Check.fails("23: no quorum", NONE, () -> planner.earliest(1));
        CommitteePlanner done = Make.defended();
        Check.fails("23: defended", NONE, () -> done.earliest(0));
        CommitteePlanner late = Make.committee();
        for (int i = 0; i < 4; i++) {
            late.pass(94);
        }
        late.pass(3);
        Check.due("23: the last day", 40000, () -> late.earliest(0));
        late.setBusy(0, 400, 0, true);
        late.setBusy(0, 400, 2, true);
        late.setBusy(0, 400, 4, true);
        Check.due("23: the last hours", 40050, () -> late.earliest(0));
        late.setBusy(0, 400, 6, true);
        Check.fails("23: none up to day 400", NONE, () -> late.earliest(0));
        late.setBusy(0, 400, 6, false);
        late.pass(1);
        Check.fails("23: too late", NONE, () -> late.earliest(0));
    }

    private static void earliestAmongOthers() {
        CommitteePlanner planner = Make.professors(14);
        for (int i = 0; i < 4; i++) {
            planner.addThesis(0, 0, 0, 13);
            Make.join(planner, i, 3 * i, 3 * i + 1, 3 * i + 2);
        }
        planner.place(0, 0, 21, 0);
        Check.due("23: another room", 2101, () -> planner.earliest(1));
        planner.place(1, 2, 21, 1);
        Check.due("23: the room between", 2101, () -> planner.earliest(2));
        planner.place(2, 1, 21, 0);
        Check.due("23: all rooms taken", 2120, () -> planner.earliest(3));
        planner.takeBack(1);
        Check.due("23: a room that was left", 2102, () -> planner.earliest(3));
        planner.join(3, 0);
        Check.due("23: a member's other defence", 2120, () -> planner.earliest(3));
    }

    private static void promise24() {
        int[][] before = {{21, 10, 5, 0}, {28, 14, 7, 0}, {42, 21, 14, 0}};
        CommitteePlanner planner = kinds();
        for (int kind = 0; kind < 3; kind++) {
            int thesis = kind;
            Check.fails("24: not placed", STATE, () -> planner.deadline(thesis, 1));
            planner.place(thesis, thesis, 100 + kind, 0);
            for (int stage = 1; stage <= 4; stage++) {
                int asked = stage;
                Check.due("24: deadline", 100 + kind - before[kind][stage - 1],
                        () -> planner.deadline(thesis, asked));
            }
        }
        planner.goOn(0);
        planner.place(0, 0, 12, 0);
        Check.due("24: negative", -9, () -> planner.deadline(0, 1));
        Check.fails("24: no such thesis", INDEX, () -> planner.deadline(3, 0));
        Check.fails("24: stage below 1", ARGUMENT, () -> planner.deadline(0, 0));
        Check.fails("24: stage above 4", ARGUMENT, () -> planner.deadline(0, 5));
        planner.takeBack(0);
        Check.fails("24: the stage comes first", ARGUMENT, () -> planner.deadline(0, 5));
        CommitteePlanner done = Make.defended();
        Check.due("24: defended", 30, () -> done.deadline(0, 4));
        Check.due("24: defended", 9, () -> done.deadline(0, 1));
    }

    private static void promise25() {
        CommitteePlanner planner = Make.committee();
        Check.fails("25: not placed", STATE, () -> planner.goOn(0));
        Check.fails("25: no such thesis", INDEX, () -> planner.goOn(1));
        planner.place(0, 0, 30, 0);
        Check.due("25: submitted", 1, () -> planner.goOn(0));
        Check.due("25: reported", 2, () -> planner.goOn(0));
        Check.due("25: announced", 3, () -> planner.goOn(0));
        Check.fails("25: not on the day", STATE, () -> planner.goOn(0));
        planner.pass(29);
        Check.fails("25: a day ahead", STATE, () -> planner.goOn(0));
        planner.takeBack(0);
        Check.fails("25: not placed", STATE, () -> planner.goOn(0));
        planner.undo();
        planner.pass(1);
        Check.due("25: defended", 4, () -> planner.goOn(0));
        Check.fails("25: defended already", STATE, () -> planner.goOn(0));
        Check.due("25: undo", 5, planner::undo);
        Check.due("25: undone", 3, () -> planner.thesis(0, 4));
        Check.due("25: the place", 30, () -> planner.thesis(0, 7));
    }

    private static void promise26() {
        CommitteePlanner planner = twoCommittees();
        Check.fails("26: none is placed", NONE, planner::mostUrgent);
        planner.place(0, 0, 30, 0);
        Check.due("26: mostUrgent", 9, planner::mostUrgent);
        planner.place(1, 0, 40, 0);
        Check.due("26: the first of two", 9, planner::mostUrgent);
        planner.goOn(0);
        Check.due("26: the second of two", 19, planner::mostUrgent);
        planner.goOn(1);
        Check.due("26: next stages", 20, planner::mostUrgent);
        planner.pass(20);
        Check.due("26: on the day", 0, planner::mostUrgent);
        Make.goOn(planner, 0, 2);
        Make.goOn(planner, 1, 2);
        planner.takeBack(1);
        planner.pass(10);
        Check.due("26: the day of the defence", 0, planner::mostUrgent);
        planner.goOn(0);
        Check.fails("26: the only one is defended", NONE, planner::mostUrgent);
    }

    private static void promise27() {
        CommitteePlanner planner = twoCommittees();
        planner.place(0, 1, 30, 6);
        planner.place(1, 2, 30, 0);
        Check.due("27: first hour", 0, () -> planner.inRoom(1, 30, 6));
        Check.due("27: second hour", 0, () -> planner.inRoom(1, 30, 7));
        Check.due("27: another room", 1, () -> planner.inRoom(2, 30, 1));
        Check.fails("27: ahead", NONE, () -> planner.inRoom(1, 30, 5));
        Check.fails("27: behind", NONE, () -> planner.inRoom(2, 30, 2));
        Check.fails("27: another day", NONE, () -> planner.inRoom(1, 29, 6));
        Check.fails("27: an empty room", NONE, () -> planner.inRoom(0, 30, 6));
        Check.fails("27: no such room", INDEX, () -> planner.inRoom(3, -1, 0));
        Check.fails("27: no such room", INDEX, () -> planner.inRoom(-1, 0, 0));
        int[][] wrong = {{-1, 0}, {401, 0}, {30, -1}, {30, 8}};
        for (int[] a : wrong) {
            Check.fails("27: out of range", ARGUMENT, () -> planner.inRoom(0, a[0], a[1]));
        }
        CommitteePlanner done = Make.defended();
        done.pass(40);
        Check.due("27: a defended one", 0, () -> done.inRoom(0, 30, 3));
    }
}
