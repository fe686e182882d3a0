import java.util.NoSuchElementException;

/** Promises 28 to 33: waiting, days and accounts. */
public final class WaitingTest {

    private static final Class<IllegalArgumentException> ARGUMENT = IllegalArgumentException.class;
    private static final Class<IllegalStateException> STATE = IllegalStateException.class;
    private static final Class<IndexOutOfBoundsException> INDEX = IndexOutOfBoundsException.class;
    private static final Class<NoSuchElementException> NONE = NoSuchElementException.class;

    public static void main(String[] args) {
        promise28();
        promise29();
        servingOnesWithPlaces();
        promise30();
        promise31();
        promise32();
        promise33();
        Check.end("WaitingTest");
    }

    /** Three theses of kind 0 with the members 0 to 2, 3 to 5, and none. */
    private static CommitteePlanner threeTheses() {
        CommitteePlanner planner = Make.professors(8);
        for (int i = 0; i < 3; i++) {
            planner.addThesis(0, 0, 0, 7);
        }
        Make.join(planner, 0, 0, 1, 2);
        Make.join(planner, 1, 3, 4, 5);
        return planner;
    }

    private static void promise28() {
        CommitteePlanner planner = threeTheses();
        Check.due("28: await", 0, () -> planner.await(2));
        Check.due("28: behind", 1, () -> planner.await(0));
        Check.due("28: again", 0, () -> planner.await(2));
        Check.due("28: in it once", 2, () -> planner.account(6));
        Check.due("28: again is a change", 5, planner::undo);
        Check.due("28: still two", 2, () -> planner.account(6));
        planner.undo();
        Check.due("28: undone", 1, () -> planner.account(6));
        planner.place(1, 0, 30, 0);
        Check.fails("28: placed", STATE, () -> planner.await(1));
        Check.fails("28: no such thesis", INDEX, () -> planner.await(3));
        CommitteePlanner done = Make.defended();
        Check.fails("28: defended", STATE, () -> done.await(0));
        planner.await(0);
        planner.place(0, 0, 40, 0);
        Check.due("28: stays in the line", 1, () -> planner.thesis(0, 9));
        Check.fails("28: waiting and placed", STATE, () -> planner.await(0));
    }

    private static void promise29() {
        CommitteePlanner planner = threeTheses();
        Check.due("29: nobody waits", 0, planner::serve);
        Check.due("29: it is a change", 5, planner::undo);
        planner.await(2);
        planner.await(1);
        planner.await(0);
        planner.join(0, 3);
        Check.due("29: serve", 2, planner::serve);
        Check.due("29: the first one's day", 21, () -> planner.thesis(1, 7));
        Check.due("29: the first one's hour", 0, () -> planner.thesis(1, 8));
        Check.due("29: the first one's room", 0, () -> planner.thesis(1, 6));
        Check.due("29: the next one's day", 21, () -> planner.thesis(0, 7));
        Check.due("29: the next one's hour", 2, () -> planner.thesis(0, 8));
        Check.due("29: one stays", 2, () -> planner.waiting(0));
        Check.due("29: it alone", 1, () -> planner.account(6));
        Check.due("29: not waiting", 0, () -> planner.thesis(1, 9));
        planner.undo();
        Check.due("29: undone, the line", 3, () -> planner.account(6));
        for (int i = 0; i < 3; i++) {
            int place = i;
            Check.due("29: undone, its places", 2 - i, () -> planner.waiting(place));
        }
        Check.due("29: undone, the places", 0, () -> planner.account(2));
        CommitteePlanner rooms = threeTheses();
        rooms.setBusy(0, 21, 1, true);
        rooms.await(0);
        rooms.await(1);
        rooms.serve();
        Check.due("29: hour 2", 2, () -> rooms.thesis(0, 8));
        Check.due("29: hour 0, room 0", 0, () -> rooms.thesis(1, 8) + rooms.thesis(1, 6));
        rooms.undo();
        rooms.setBusy(0, 21, 1, false);
        rooms.serve();
        Check.due("29: the other room", 1, () -> rooms.thesis(1, 6));
    }

    private static void servingOnesWithPlaces() {
        CommitteePlanner planner = threeTheses();
        planner.await(0);
        planner.await(1);
        planner.place(0, 2, 50, 3);
        planner.place(1, 1, 60, 3);
        Check.due("29: placed anew", 2, planner::serve);
        Check.due("29: the earliest", 2100, () -> 100 * planner.thesis(0, 7) + 10 * planner.thesis(0, 8)
                + planner.thesis(0, 6));
        Check.due("29: the earliest", 2101, () -> 100 * planner.thesis(1, 7) + 10 * planner.thesis(1, 8)
                + planner.thesis(1, 6));
        CommitteePlanner done = Make.committee();
        done.await(0);
        done.place(0, 0, 21, 0);
        Make.goOn(done, 0, 3);
        done.pass(21);
        done.goOn(0);
        Check.due("29: a defended one stays", 0, done::serve);
        Check.due("29: and waits", 1, () -> done.account(6));
        Check.due("29: at its place", 21, () -> done.thesis(0, 7));
        CommitteePlanner order = Make.professors(8);
        for (int i = 0; i < 4; i++) {
            order.addThesis(0, 0, 0, 7);
        }
        for (int i = 3; i >= 0; i--) {
            order.await(i);
        }
        Make.join(order, 2, 0, 1, 2);
        Check.due("29: the second one alone", 1, order::serve);
        Check.due("29: the line", 3, () -> order.waiting(0));
        Check.due("29: the line", 1, () -> order.waiting(1));
        Check.due("29: the line", 0, () -> order.waiting(2));
        Check.fails("29: the end of the line", NONE, () -> order.waiting(3));
        order.undo();
        for (int i = 0; i < 4; i++) {
            int place = i;
            Check.due("29: undone, the line", 3 - i, () -> order.waiting(place));
        }
    }

    private static void promise30() {
        CommitteePlanner planner = threeTheses();
        Check.fails("30: an empty line", NONE, () -> planner.waiting(0));
        planner.await(1);
        planner.await(2);
        planner.await(0);
        Check.due("30: waiting", 1, () -> planner.waiting(0));
        Check.due("30: waiting", 2, () -> planner.waiting(1));
        Check.due("30: waiting", 0, () -> planner.waiting(2));
        Check.fails("30: behind the line", NONE, () -> planner.waiting(3));
        Check.fails("30: below 0", NONE, () -> planner.waiting(-1));
        Check.fails("30: far behind", NONE, () -> planner.waiting(Integer.MAX_VALUE));
    }

    private static void promise31() {
        CommitteePlanner planner = threeTheses();
        planner.place(0, 0, 30, 0);
        planner.place(1, 1, 29, 0);
        Check.due("31: on the day of a deadline", 0, () -> planner.pass(8));
        Check.due("31: a day behind it", 1, () -> planner.pass(1));
        Check.due("31: the place is lost", -1, () -> planner.thesis(1, 6));
        Check.due("31: the other one's is not", 30, () -> planner.thesis(0, 7));
        Check.due("31: lost so far", 1, () -> planner.account(8));
        planner.goOn(0);
        Check.due("31: the next deadline", 0, () -> planner.pass(11));
        Check.due("31: lost", 1, () -> planner.pass(1));
        Check.due("31: the stage stays", 1, () -> planner.thesis(0, 4));
        Check.due("31: lost so far", 2, () -> planner.account(8));
        Check.due("31: the present day", 21, () -> planner.account(7));
        planner.undo();
        Check.due("31: undone, the day", 20, () -> planner.account(7));
        Check.due("31: undone, lost so far", 1, () -> planner.account(8));
        Check.due("31: undone, the place", 0, () -> planner.thesis(0, 6));
        Check.fails("31: no days", ARGUMENT, () -> planner.pass(0));
        Check.fails("31: 100 days", ARGUMENT, () -> planner.pass(100));
        Check.fails("31: below 0", ARGUMENT, () -> planner.pass(-1));
        Check.fails("31: far above", ARGUMENT, () -> planner.pass(Integer.MAX_VALUE));
        Check.due("31: two places at once", 2, () -> {
            planner.place(1, 1, 50, 0);
            return planner.pass(99);
        });
        CommitteePlanner late = Make.defended();
        for (int i = 0; i < 3; i++) {
            Check.due("31: a defended one keeps its place", 0, () -> late.pass(99));
        }
        Check.due("31: the place", 30, () -> late.thesis(0, 7));
        Check.fails("31: day 401", STATE, () -> late.pass(74));
        Check.fails("31: 100 comes first", ARGUMENT, () -> late.pass(100));
        Check.due("31: day 400", 0, () -> late.pass(73));
        Check.due("31: the present day", 400, () -> late.account(7));
        Check.fails("31: no day is left", STATE, () -> late.pass(1));
        CommitteePlanner announced = Make.defence();
        Make.goOn(announced, 0, 3);
        Check.due("31: on the day of the defence", 0, () -> announced.pass(30));
        Check.due("31: behind it", 1, () -> announced.pass(1));
    }

    private static void promise32() {
        CommitteePlanner planner = threeTheses();
        planner.place(0, 0, 30, 0);
        Make.goOn(planner, 0, 3);
        planner.pass(30);
        planner.goOn(0);
        planner.place(1, 0, 60, 0);
        planner.await(2);
        planner.join(2, 6);
        planner.setConflict(0, 1, true);
        planner.setConflict(1, 2, true);
        planner.setConflict(5, 4, true);
        int[] due = {8, 3, 1, 1, 7, 2, 1, 30, 0, 3};
        accountsAre(planner, due);
        planner.pass(10);
        accountsAre(planner, new int[] {8, 3, 0, 1, 7, 2, 1, 40, 1, 3});
        planner.undo();
        accountsAre(planner, due);
        planner.place(2 - 1, 1, 70, 0);
        planner.leave(1, 3);
        planner.setConflict(4, 5, false);
        accountsAre(planner, new int[] {8, 3, 0, 1, 6, 1, 1, 30, 0, 2});
        Check.fails("32: below 0", ARGUMENT, () -> planner.account(-1));
        Check.fails("32: above 9", ARGUMENT, () -> planner.account(10));
    }

    private static void accountsAre(CommitteePlanner planner, int[] due) {
        for (int account = 0; account < 10; account++) {
            int asked = account;
            Check.due("32: account " + account, due[account], () -> planner.account(asked));
        }
    }

    private static void promise33() {
        CommitteePlanner planner = new CommitteePlanner();
        Check.fails("33: no persons", ArithmeticException.class, planner::meanLoad);
        planner.addPerson(0, 1, 0, 6);
        Check.due("33: no committees", 0.0, planner::meanLoad);
        planner.addPerson(0, 1, 0, 6);
        planner.addPerson(0, 1, 0, 6);
        planner.addThesis(0, 0, 0, 0);
        planner.join(0, 0);
        Check.due("33: one for three", 1.0 / 3.0, planner::meanLoad);
        planner.addThesis(0, 0, 0, 0);
        Make.join(planner, 0, 1, 2);
        Make.join(planner, 1, 2, 0);
        Check.due("33: five for three", 5.0 / 3.0, planner::meanLoad);
        planner.place(0, 0, 21, 0);
        Make.goOn(planner, 0, 3);
        planner.pass(21);
        planner.goOn(0);
        Check.due("33: the defended one does not count", 2.0 / 3.0, planner::meanLoad);
    }
}
