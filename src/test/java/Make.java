/** Planners that several tests begin with. */
final class Make {

    private Make() {
    }

    /** So many persons who can be in any committee of a thesis of kind 0: professors of field 0, limit 6. */
    static CommitteePlanner professors(int count) {
        CommitteePlanner planner = new CommitteePlanner();
        for (int i = 0; i < count; i++) {
            planner.addPerson(0, 1, 0, 6);
        }
        return planner;
    }

    /** Six professors and thesis 0 of kind 0 with the members 0, 1 and 2, supervised by 5. */
    static CommitteePlanner committee() {
        CommitteePlanner planner = professors(6);
        planner.addThesis(0, 0, 0, 5);
        join(planner, 0, 0, 1, 2);
        return planner;
    }

    /** As committee, with the defence in room 0 on day 30 at hour 2. */
    static CommitteePlanner defence() {
        CommitteePlanner planner = committee();
        planner.place(0, 0, 30, 2);
        return planner;
    }

    /** As defence, but thesis 0 is defended and the present day is 30. */
    static CommitteePlanner defended() {
        CommitteePlanner planner = defence();
        goOn(planner, 0, 3);
        planner.pass(30);
        planner.goOn(0);
        return planner;
    }

    static void join(CommitteePlanner planner, int thesis, int... persons) {
        for (int person : persons) {
            planner.join(thesis, person);
        }
    }

    static void goOn(CommitteePlanner planner, int thesis, int times) {
        for (int i = 0; i < times; i++) {
            planner.goOn(thesis);
        }
    }

    static void type(CommitteePlanner planner, String text) {
        for (int i = 0; i < text.length(); i++) {
            planner.append(text.charAt(i));
        }
    }

    /** Types a text and reads it. */
    static int read(CommitteePlanner planner, String text) {
        type(planner, text);
        return planner.read();
    }

    static int set(int... elements) {
        int set = 0;
        for (int element : elements) {
            set |= 1 << element;
        }
        return set;
    }
}
