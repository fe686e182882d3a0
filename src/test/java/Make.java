/** Planners that several tests begin with. */
final class Make {

    private Make() {
    }

    /** So many persons who can be in any committee of a thesis of kind 0: professors of field 0, limit 6. */
    static CommitteePlanner professors(int count) {
        CommitteePlanner planner = new CommitteePlanner();
        for (int i = 0; i < count; i++) {
            planner.addPerson(0, 1, 0, 6);
        }
        return planner;
    }

    /** Six professors and thesis 0 of kind 0 with the members 0, 1 and 2, supervised by 5. */
    static CommitteePlanner committee() {
        CommitteePlanner planner = professors(6);
        planner.addThesis(0, 0, 0, 5);
        join(planner, 0, 0, 1, 2);
        return planner;
    }

    /** As committee, with the defence in room 0 on day 30 at hour 2. */
    static CommitteePlanner defence() {
        CommitteePlanner planner = committee();
        planner.place(0, 0, 30, 2);
        return planner;
    }

    /** As defence, but thesis 0 is defended and the present day is 30. */
    static CommitteePlanner defended() {
        CommitteePlanner planner = defence();
        goOn(planner, 0, 3);
        planner.pass(30);
        planner.goOn(0);
        return planner;
    }

    /**
     * Eight professors and three theses, supervised by 7: thesis 0 has the members 0 to 2 and a place in
     * room 0 on day 30 at hour 2, thesis 1 has the members 3 to 5 and waits, thesis 2 has none. The
     * present day is 3; there is a busy hour, a conflict, an input, a reason, an error position and
     * something saved.
     */
    static CommitteePlanner rich() {
        CommitteePlanner planner = professors(8);
        for (int i = 0; i < 3; i++) {
            planner.addThesis(0, 0, 0, 7);
        }
        join(planner, 0, 0, 1, 2);
        planner.save();
        Check.outcome(() -> planner.join(0, 0));
        Check.outcome(() -> read(planner, "d12"));
        join(planner, 1, 3, 4, 5);
        planner.place(0, 0, 30, 2);
        planner.setBusy(6, 9, 7, true);
        planner.setConflict(6, 5, true);
        planner.await(1);
        planner.pass(3);
        planner.append('d');
        return planner;
    }

    /** As rich, and thesis 0 is defended on the present day, 30. */
    static CommitteePlanner richDefended() {
        CommitteePlanner planner = rich();
        goOn(planner, 0, 3);
        planner.pass(27);
        planner.goOn(0);
        return planner;
    }

    /** As rich, with as many persons and theses as there can be. */
    static CommitteePlanner full() {
        CommitteePlanner planner = rich();
        for (int i = 8; i < 14; i++) {
            planner.addPerson(1, 2, 3, 4);
        }
        for (int i = 3; i < 8; i++) {
            planner.addThesis(2, 5, 3, i);
        }
        return planner;
    }

    /** Lets days pass until day 400. */
    static CommitteePlanner toLastDay(CommitteePlanner planner) {
        return passTo(planner, 400);
    }

    /** Lets days pass until a day, at most 99 at once. */
    static CommitteePlanner passTo(CommitteePlanner planner, int day) {
        for (int days = day - planner.account(7); days > 0; days -= 99) {
            planner.pass(Math.min(99, days));
        }
        return planner;
    }

    static void join(CommitteePlanner planner, int thesis, int... persons) {
        for (int person : persons) {
            planner.join(thesis, person);
        }
    }

    static void goOn(CommitteePlanner planner, int thesis, int times) {
        for (int i = 0; i < times; i++) {
            planner.goOn(thesis);
        }
    }

    static void type(CommitteePlanner planner, String text) {
        for (int i = 0; i < text.length(); i++) {
            planner.append(text.charAt(i));
        }
    }

    /** Types a text and reads it. */
    static int read(CommitteePlanner planner, String text) {
        type(planner, text);
        return planner.read();
    }

    static int set(int... elements) {
        int set = 0;
        for (int element : elements) {
            set |= 1 << element;
        }
        return set;
    }
}
