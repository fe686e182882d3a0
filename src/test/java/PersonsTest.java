import java.util.NoSuchElementException;

/** Promises 1 to 8: a new object, clear, and persons. */
public final class PersonsTest {

    private static final Class<IllegalArgumentException> ARGUMENT = IllegalArgumentException.class;
    private static final Class<IllegalStateException> STATE = IllegalStateException.class;
    private static final Class<IndexOutOfBoundsException> INDEX = IndexOutOfBoundsException.class;
    private static final Class<NoSuchElementException> NONE = NoSuchElementException.class;

    public static void main(String[] args) {
        promise1();
        promise2();
        promise3();
        promise4();
        promise5();
        promise6();
        promise7();
        promise8();
        Check.end("PersonsTest");
    }

    private static void promise1() {
        CommitteePlanner planner = new CommitteePlanner();
        for (int account = 0; account < 10; account++) {
            int number = account;
            Check.due("1: new, account " + account, 0, () -> planner.account(number));
        }
        Check.fails("1: new, reason", NONE, planner::reason);
        Check.fails("1: new, errorPosition", NONE, planner::errorPosition);
        Check.fails("1: new, mostUrgent", NONE, planner::mostUrgent);
        Check.fails("1: new, meanLoad", ArithmeticException.class, planner::meanLoad);
        Check.fails("1: new, undo", NONE, planner::undo);
        Check.fails("1: new, restore", STATE, planner::restore);
        Check.fails("1: new, waiting", NONE, () -> planner.waiting(0));
        Check.fails("1: new, person", INDEX, () -> planner.person(0, 0));
        Check.fails("1: new, thesis", INDEX, () -> planner.thesis(0, 0));
        Check.fails("1: new, inRoom", NONE, () -> planner.inRoom(0, 0, 0));
        Check.due("1: new, append", 1, () -> planner.append('j'));
        CommitteePlanner other = new CommitteePlanner();
        planner.addPerson(0, 0, 0, 1);
        Check.due("1: two objects share nothing", 0, () -> other.account(0));
    }

    private static void promise2() {
        CommitteePlanner planner = Make.defence();
        planner.setConflict(3, 4, true);
        planner.setBusy(0, 7, 7, true);
        planner.addThesis(1, 2, 3, 4);
        planner.await(1);
        planner.pass(9);
        planner.goOn(0);
        planner.save();
        Check.fails("2: a refusal", UnsupportedOperationException.class, () -> planner.join(0, 0));
        Check.fails("2: a wrong text", ARGUMENT, () -> Make.read(planner, "d1"));
        Make.type(planner, "d1");
        Check.due("2: clear", 6, planner::clear);
        for (int account = 0; account < 10; account++) {
            int number = account;
            Check.due("2: cleared, account " + account, 0, () -> planner.account(number));
        }
        Check.fails("2: cleared, undo", NONE, planner::undo);
        Check.due("2: cleared, reason", 1, planner::reason);
        Check.due("2: cleared, errorPosition", 2, planner::errorPosition);
        Check.due("2: cleared, input", 3, () -> planner.append(';'));
        Check.due("2: clear again", 0, planner::clear);
        Check.due("2: cleared, addPerson", 0, () -> planner.addPerson(2, 5, 3, 2));
        Check.due("2: cleared, no conflicts", 0, () -> planner.person(0, 4));
        Check.due("2: cleared, nothing busy", 0, () -> planner.person(0, 7));
        Check.due("2: cleared, not busy", false, () -> planner.setBusy(0, 7, 7, false));
        Check.due("2: cleared, addThesis", 0, () -> planner.addThesis(0, 0, 0, 0));
        Check.due("2: cleared, no members", 0, () -> planner.thesis(0, 5));
        Check.due("2: cleared, no place", -1, () -> planner.thesis(0, 7));
        Check.due("2: cleared, registered", 0, () -> planner.thesis(0, 4));
        Check.due("2: cleared, restore", 2, planner::restore);
        Check.due("2: restored", 6, () -> planner.account(0));
        int[] limits = {0, 1, 0, 6};
        for (int what = 0; what < 4; what++) {
            int asked = what;
            Check.due("2: restored, person", limits[what], () -> planner.person(0, asked));
        }
        planner.clear();
        Check.due("2: the input stayed", 1, planner::read);
        CommitteePlanner done = Make.defended();
        done.addThesis(0, 0, 0, 5);
        Make.join(done, 1, 0, 1, 2);
        done.place(1, 1, 60, 0);
        done.pass(99);
        Check.due("2: a place is lost", 1, () -> done.account(8));
        done.clear();
        Check.due("2: cleared, nothing is defended", 0, () -> done.account(3));
        Check.due("2: cleared, nothing is lost", 0, () -> done.account(8));
        for (int i = 0; i < 6; i++) {
            done.addPerson(0, 1, 0, 6);
        }
        Check.due("2: cleared, nothing is supervised", 0, () -> done.person(5, 6));
    }

    private static void promise3() {
        CommitteePlanner planner = new CommitteePlanner();
        int[][] wrong = {{-1, 0, 0, 1}, {3, 0, 0, 1}, {0, -1, 0, 1}, {0, 64, 0, 1}, {0, 0, -1, 1}, {0, 0, 4, 1},
            {0, 0, 0, 0}, {0, 0, 0, 7}, {Integer.MIN_VALUE, 0, 0, 1}, {0, Integer.MAX_VALUE, 0, 1},
            {0, 0, 0, Integer.MIN_VALUE}};
        for (int[] a : wrong) {
            Check.fails("3: addPerson out of range", ARGUMENT,
                    () -> planner.addPerson(a[0], a[1], a[2], a[3]));
        }
        Check.due("3: addPerson", 0, () -> planner.addPerson(0, 0, 0, 1));
        Check.due("3: addPerson", 1, () -> planner.addPerson(2, 63, 3, 6));
        Check.due("3: addPerson", 2, () -> planner.addPerson(1, 5, 2, 3));
        int[] numbers = {2, 63, 3, 6, 0, 0, 0, 0};
        for (int what = 0; what < 8; what++) {
            int asked = what;
            Check.due("3: person added, " + what, numbers[what], () -> planner.person(1, asked));
        }
        for (int i = 3; i < 14; i++) {
            Check.due("3: addPerson", i, () -> planner.addPerson(1, 1, 1, 1));
        }
        Check.fails("3: a fifteenth person", STATE, () -> planner.addPerson(1, 1, 1, 1));
        Check.fails("3: out of range comes first", ARGUMENT, () -> planner.addPerson(3, 1, 1, 1));
        Check.due("3: persons", 14, () -> planner.account(0));
    }

    private static void promise4() {
        CommitteePlanner planner = Make.defence();
        Check.due("4: setConflict", false, () -> planner.setConflict(0, 1, true));
        Check.due("4: conflict, one side", 2, () -> planner.person(0, 4));
        Check.due("4: conflict, other side", 1, () -> planner.person(1, 4));
        Check.due("4: committees stay", 7, () -> planner.thesis(0, 5));
        Check.due("4: defences stay", 30, () -> planner.thesis(0, 7));
        Check.due("4: they were", true, () -> planner.setConflict(1, 0, true));
        Check.due("4: pairs", 1, () -> planner.account(9));
        planner.setConflict(0, 5, true);
        Check.due("4: conflict off", true, () -> planner.setConflict(1, 0, false));
        Check.due("4: they were not", false, () -> planner.setConflict(0, 1, false));
        Check.due("4: others stay", 32, () -> planner.person(0, 4));
        Check.due("4: off on the other side", 0, () -> planner.person(1, 4));
        Check.due("4: nothing different is a change", 5, planner::undo);
        Check.fails("4: both the same", ARGUMENT, () -> planner.setConflict(3, 3, true));
        Check.fails("4: first does not exist", INDEX, () -> planner.setConflict(6, 0, true));
        Check.fails("4: second does not exist", INDEX, () -> planner.setConflict(0, -1, true));
        Check.fails("4: the same who do not exist", INDEX, () -> planner.setConflict(6, 6, true));
    }

    private static void promise5() {
        CommitteePlanner planner = Make.defence();
        Check.due("5: setBusy", false, () -> planner.setBusy(0, 30, 2, true));
        Check.due("5: was busy", true, () -> planner.setBusy(0, 30, 2, true));
        Check.due("5: counted once", 1, () -> planner.person(0, 7));
        Check.due("5: defences stay", 2, () -> planner.thesis(0, 8));
        Check.due("5: others are not busy", 0, () -> planner.person(1, 7));
        Check.due("5: first hour", false, () -> planner.setBusy(1, 0, 0, true));
        Check.due("5: last hour", false, () -> planner.setBusy(1, 400, 7, true));
        Check.due("5: hours busy", 2, () -> planner.person(1, 7));
        Check.due("5: last hour was", true, () -> planner.setBusy(1, 400, 7, false));
        Check.due("5: off again", false, () -> planner.setBusy(1, 400, 7, false));
        Check.due("5: hours busy then", 1, () -> planner.person(1, 7));
        Check.due("5: nothing different is a change", 5, planner::undo);
        Check.fails("5: no such person", INDEX, () -> planner.setBusy(6, -1, 0, true));
        int[][] wrong = {{-1, 0}, {401, 0}, {0, -1}, {0, 8}, {Integer.MAX_VALUE, 0}, {0, Integer.MIN_VALUE}};
        for (int[] a : wrong) {
            Check.fails("5: out of range", ARGUMENT, () -> planner.setBusy(0, a[0], a[1], true));
        }
        CommitteePlanner full = Make.professors(2);
        for (int day = 0; day < 20; day++) {
            for (int hour = 0; hour < 8; hour++) {
                int someDay = day;
                int someHour = hour;
                Check.due("5: each hour alone", false, () -> full.setBusy(1, someDay, someHour, true));
            }
        }
        Check.due("5: all these hours", 160, () -> full.person(1, 7));
        Check.due("5: the first day behind them", 20, () -> full.freeDay(1));
        Check.due("5: only this person", 0, () -> full.freeDay(0));
    }

    private static void promise6() {
        CommitteePlanner planner = Make.defended();
        planner.addThesis(1, 0, 1, 5);
        planner.addThesis(0, 3, 0, 0);
        planner.join(1, 1);
        planner.join(2, 1);
        planner.join(2, 0);
        planner.setBusy(1, 3, 3, true);
        planner.setConflict(1, 4, true);
        int[] due = {0, 1, 0, 6, Make.set(4), Make.set(1, 2), 0, 1};
        for (int what = 0; what < 8; what++) {
            int asked = what;
            Check.due("6: person, " + what, due[what], () -> planner.person(1, asked));
        }
        Check.due("6: the defended one does not count", 0, () -> planner.person(2, 5));
        Check.due("6: supervised, the defended one too", Make.set(0, 1), () -> planner.person(5, 6));
        Check.due("6: supervised", Make.set(2), () -> planner.person(0, 6));
        Check.fails("6: no such person", INDEX, () -> planner.person(6, 0));
        Check.fails("6: no such person", INDEX, () -> planner.person(-1, 9));
        Check.fails("6: what below 0", ARGUMENT, () -> planner.person(0, -1));
        Check.fails("6: what above 7", ARGUMENT, () -> planner.person(0, 8));
        CommitteePlanner guest = new CommitteePlanner();
        guest.addPerson(2, 44, 3, 5);
        Check.due("6: rank", 2, () -> guest.person(0, 0));
        Check.due("6: fields", 44, () -> guest.person(0, 1));
        Check.due("6: department", 3, () -> guest.person(0, 2));
        Check.due("6: limit", 5, () -> guest.person(0, 3));
    }

    private static void promise7() {
        CommitteePlanner planner = Make.defence();
        boolean[] free = {true, false, false, false, true, true, true};
        for (int hour = 0; hour < 7; hour++) {
            int first = hour;
            Check.due("7: a member, hour " + hour, free[hour], () -> planner.isFree(0, 30, first));
            Check.due("7: not a member", true, () -> planner.isFree(3, 30, first));
            Check.due("7: the supervisor", true, () -> planner.isFree(5, 30, first));
            Check.due("7: another day", true, () -> planner.isFree(0, 31, first));
        }
        planner.setBusy(3, 400, 7, true);
        Check.due("7: busy in the second hour", false, () -> planner.isFree(3, 400, 6));
        Check.due("7: busy behind", true, () -> planner.isFree(3, 400, 5));
        planner.setBusy(3, 400, 4, true);
        Check.due("7: busy in the first hour", false, () -> planner.isFree(3, 400, 4));
        Check.due("7: between busy hours", true, () -> planner.isFree(3, 400, 5));
        planner.setBusy(0, 30, 0, true);
        planner.addThesis(0, 0, 0, 5);
        Make.join(planner, 1, 0, 3, 4);
        planner.place(1, 1, 30, 5);
        boolean[] freeThen = {false, false, false, false, false, false, false};
        for (int hour = 0; hour < 7; hour++) {
            int first = hour;
            Check.due("7: busy and two defences, hour " + hour, freeThen[hour], () -> planner.isFree(0, 30, first));
        }
        Check.due("7: the other one's member", true, () -> planner.isFree(3, 30, 3));
        CommitteePlanner done = Make.defended();
        Check.due("7: a defended defence keeps its hours", false, () -> done.isFree(0, 30, 1));
        Check.fails("7: no such person", INDEX, () -> planner.isFree(6, -1, 0));
        int[][] wrong = {{-1, 0}, {401, 0}, {0, -1}, {0, 7}};
        for (int[] a : wrong) {
            Check.fails("7: out of range", ARGUMENT, () -> planner.isFree(0, a[0], a[1]));
        }
    }

    private static void promise8() {
        CommitteePlanner planner = Make.defence();
        Check.due("8: at first", 0, () -> planner.freeDay(0));
        planner.setBusy(0, 0, 7, true);
        planner.setBusy(0, 1, 0, true);
        Check.due("8: behind busy days", 2, () -> planner.freeDay(0));
        planner.pass(5);
        Check.due("8: from the present day on", 5, () -> planner.freeDay(0));
        CommitteePlanner done = Make.defended();
        Check.due("8: a defence on the present day", 31, () -> done.freeDay(0));
        Check.due("8: no member", 30, () -> done.freeDay(3));
        Check.fails("8: no such person", INDEX, () -> done.freeDay(6));
        Check.fails("8: no such person", INDEX, () -> done.freeDay(-1));
        CommitteePlanner last = Make.professors(1);
        for (int i = 0; i < 4; i++) {
            last.pass(99);
        }
        last.pass(2);
        last.setBusy(0, 398, 1, true);
        last.setBusy(0, 399, 2, true);
        Check.due("8: the last day", 400, () -> last.freeDay(0));
        last.setBusy(0, 400, 7, true);
        Check.fails("8: none up to 400", NONE, () -> last.freeDay(0));
    }
}
