import java.util.NoSuchElementException;

/** The sentences under "More precisely", one after the other; each method's comment is the sentence. */
public final class PreciselyTest {

    private static final Class<IllegalArgumentException> ARGUMENT = IllegalArgumentException.class;
    private static final Class<IllegalStateException> STATE = IllegalStateException.class;
    private static final Class<NoSuchElementException> NONE = NoSuchElementException.class;

    public static void main(String[] args) {
        placedWhileWaiting();
        defendedDefences();
        defencesOfAPerson();
        reason8();
        replacedBySame();
        whatLeavesDefences();
        lostPlaceKeepsStage();
        defendedThesis();
        rowsOfPersons();
        completionByNobody();
        dayOfADeadline();
        servedOnesSeeOthers();
        awaitAgain();
        allCommitteesAndHours();
        rightAndCannotBeDone();
        whatGoesBack();
        Check.end("PreciselyTest");
    }

    /**
     * A thesis that waits stays in the line when its defence is placed by a call, and is placed anew when
     * the line is served.
     */
    private static void placedWhileWaiting() {
        for (boolean isText : new boolean[] {false, true}) {
            CommitteePlanner planner = Make.rich();
            Check.outcome(planner::read);
            if (isText) {
                Make.read(planner, "p1@2,50,6;");
            } else {
                planner.place(1, 2, 50, 6);
            }
            Check.due("waits: still waiting", 1, () -> planner.thesis(1, 9));
            Check.due("waits: still in the line", 1, () -> planner.waiting(0));
            Check.fails("waits: placed, cannot be awaited", STATE, () -> planner.await(1));
            Check.due("waits: placed anew", 1, planner::serve);
            Check.due("waits: the new day", 24, () -> planner.thesis(1, 7));
            Check.due("waits: the new hour", 0, () -> planner.thesis(1, 8));
            Check.due("waits: the new room", 0, () -> planner.thesis(1, 6));
            Check.fails("waits: the old place is left", NONE, () -> planner.inRoom(2, 50, 6));
            Check.due("waits: not any more", 0, () -> planner.account(6));
            Check.due("waits: one change", 5, planner::undo);
            Check.due("waits: the old day", 50, () -> planner.thesis(1, 7));
        }
        CommitteePlanner same = Make.committee();
        same.await(0);
        same.place(0, 0, 21, 0);
        Check.due("waits: placed anew at the same time", 1, same::serve);
        Check.due("waits: the same day", 21, () -> same.thesis(0, 7));
        CommitteePlanner stays = Make.committee();
        stays.await(0);
        Make.read(stays, "d99;d99;d99;d82;");
        stays.place(0, 0, 400, 0);
        for (int hour = 1; hour < 8; hour += 2) {
            stays.setBusy(1, 400, hour, true);
        }
        Check.due("waits: there is no time any more", 0, stays::serve);
        Check.due("waits: it stays in the line", 1, () -> stays.account(6));
        Check.due("waits: it keeps the place that it has", 400, () -> stays.thesis(0, 7));
    }

    /** Defences of defended theses keep their rooms and hours, also for whether persons are free. */
    private static void defendedDefences() {
        CommitteePlanner planner = Make.richDefended();
        planner.place(1, 0, 51, 0);
        Make.goOn(planner, 1, 3);
        Check.due("defended: the room is taken", 10, () -> planner.whyNotPlace(1, 0, 30, 3));
        Check.due("defended: who is in the room", 0, () -> planner.inRoom(0, 30, 3));
        Check.due("defended: a member is not free", false, () -> planner.isFree(0, 30, 3));
        Check.due("defended: another one is free", true, () -> planner.isFree(3, 30, 3));
        Check.due("defended: not a free day", 31, () -> planner.freeDay(0));
        planner.join(1, 0);
        Check.due("defended: a member of another committee", 11, () -> planner.whyNotPlace(1, 1, 30, 3));
        Check.due("defended: ahead of it", 3000, () -> planner.earliest(1));
        planner.setBusy(4, 30, 1, true);
        Check.due("defended: behind it", 3040, () -> planner.earliest(1));
        planner.leave(1, 0);
        Check.due("defended: beside it", 3021, () -> planner.earliest(1));
        planner.setBusy(4, 30, 1, false);
        planner.place(1, 1, 30, 1);
        Check.due("defended: a joiner is not free", 7, () -> planner.whyNotJoin(1, 0));
        planner.pass(99);
        Check.due("defended: for good", 0, () -> planner.inRoom(0, 30, 2));
        Check.due("defended: not placed and ahead", 0, () -> planner.account(2));
        Check.due("defended: the place is told", 30, () -> planner.thesis(0, 7));
        Check.due("defended: the deadline is told", 20, () -> planner.deadline(0, 2));
    }

    /** The defences of a person are those of committees in which the person is a member. */
    private static void defencesOfAPerson() {
        CommitteePlanner planner = Make.rich();
        Check.due("of a person: the supervisor is free", true, () -> planner.isFree(7, 30, 2));
        Check.due("of a person: a member is not", false, () -> planner.isFree(0, 30, 2));
        planner.pass(27);
        Check.due("of a person: lost by now", 30, () -> planner.freeDay(0));
        planner.undo();
        Make.goOn(planner, 0, 3);
        planner.pass(27);
        Check.due("of a person: the day of a member", 31, () -> planner.freeDay(0));
        Check.due("of a person: the day of the supervisor", 30, () -> planner.freeDay(7));
        planner.join(0, 7);
        Check.due("of a person: a supervisor who is a member", 31, () -> planner.freeDay(7));
        planner.leave(0, 0);
        Check.due("of a person: a member who has left", 30, () -> planner.freeDay(0));
    }

    /** Reason 8 comes behind the reasons 1 to 7. */
    private static void reason8() {
        Check.refusesFor("reason 8: alone", 8, Make::richDefended, p -> p.join(0, 3));
        Check.refusesFor("reason 8: behind 1", 1, Make::richDefended, p -> p.join(0, 0));
        Check.refusesFor("reason 8: alone, replace", 8, Make::richDefended, p -> p.replace(0, 0, 3));
        Check.refusesFor("reason 8: by the same", 8, Make::richDefended, p -> p.replace(0, 0, 0));
        Check.refusesFor("reason 8: behind 7", 7, () -> {
            CommitteePlanner planner = Make.richDefended();
            planner.setBusy(3, 30, 2, true);
            return planner;
        }, p -> p.join(0, 3));
    }

    /** A member can be replaced by the same person; the committee does not count for the limit then. */
    private static void replacedBySame() {
        for (int limit = 1; limit <= 6; limit++) {
            CommitteePlanner planner = Make.professors(2);
            planner.addPerson(0, 1, 0, limit);
            for (int i = 0; i < limit; i++) {
                planner.addThesis(0, 0, 0, 2);
                planner.join(i, 2);
            }
            Make.join(planner, 0, 0, 1);
            planner.place(0, 0, 21, 0);
            String before = Sight.ofState(planner);
            Check.due("by the same: at limit " + limit, 1, () -> planner.replace(0, 2, 2));
            Check.same("by the same: nothing is different", before, Sight.ofState(planner));
            Check.due("by the same: a change", 5, planner::undo);
        }
        CommitteePlanner few = Make.professors(2);
        few.addThesis(0, 0, 0, 1);
        few.join(0, 0);
        Check.due("by the same: the quorum does not hold", 0, () -> few.replace(0, 0, 0));
        Check.due("by another: the quorum does not hold", 0, () -> few.replace(0, 0, 1));
        Check.due("by another: the member", 2, () -> few.thesis(0, 5));
    }

    /** Changes of conflicts and busy hours, and persons who join, leave defences where they are. */
    private static void whatLeavesDefences() {
        CommitteePlanner planner = Make.rich();
        planner.setConflict(0, 1, true);
        planner.setConflict(0, 7, true);
        planner.setBusy(1, 30, 2, true);
        planner.setBusy(2, 30, 3, true);
        planner.join(0, 3);
        Check.due("left where they are: the day", 30, () -> planner.thesis(0, 7));
        Check.due("left where they are: the hour", 2, () -> planner.thesis(0, 8));
        Check.due("left where they are: the room", 0, () -> planner.thesis(0, 6));
        Check.due("left where they are: the members", 15, () -> planner.thesis(0, 5));
        Check.due("left where they are: not there again", 11, () -> planner.whyNotPlace(0, 0, 30, 2));
        Check.due("left where they are: it can go on", 1, () -> planner.goOn(0));
        Check.due("left where they are: a member can leave", 3, () -> planner.leave(0, 0));
        Check.due("left where they are: the day still", 30, () -> planner.thesis(0, 7));
    }

    /** A thesis whose defence loses its place keeps its stage. */
    private static void lostPlaceKeepsStage() {
        for (int stage = 0; stage < 4; stage++) {
            int due = stage;
            CommitteePlanner planner = Make.defence();
            planner.addPerson(1, 0, 0, 6);
            Make.goOn(planner, 0, stage);
            planner.leave(0, 0);
            Check.due("keeps its stage: left", due, () -> planner.thesis(0, 4));
            planner.undo();
            planner.takeBack(0);
            Check.due("keeps its stage: taken back", due, () -> planner.thesis(0, 4));
            planner.undo();
            Check.due("keeps its stage: lost by days", 1, () -> planner.pass(31));
            Check.due("keeps its stage: by days", due, () -> planner.thesis(0, 4));
            Check.fails("keeps its stage: cannot go on", STATE, () -> planner.goOn(0));
            planner.place(0, 1, 90, 0);
            Check.due("keeps its stage: placed again", due, () -> planner.thesis(0, 4));
            planner.join(0, 6);
            Make.read(planner, "l0,0;l0,1;");
            Check.due("keeps its stage: left by a text", due, () -> planner.thesis(0, 4));
            Check.due("keeps its stage: no place", -1, () -> planner.thesis(0, 8));
            CommitteePlanner replaced = Make.defence();
            replaced.addPerson(0, 0, 0, 6);
            replaced.addPerson(0, 0, 0, 6);
            replaced.addPerson(0, 0, 0, 6);
            Make.goOn(replaced, 0, stage);
            Check.due("keeps its stage: one expert less", 1, () -> replaced.replace(0, 0, 6));
            Check.due("keeps its stage: two experts less", 1, () -> replaced.replace(0, 1, 7));
            Check.due("keeps its stage: no expert", 0, () -> replaced.replace(0, 2, 8));
            Check.due("keeps its stage: replaced, no place", -1, () -> replaced.thesis(0, 7));
            Check.due("keeps its stage: replaced", due, () -> replaced.thesis(0, 4));
            Check.due("keeps its stage: replaced, not lost by days", 0, () -> replaced.account(8));
        }
    }

    /** There are no replacements in a defended thesis, and no completion if its quorum does not hold. */
    private static void defendedThesis() {
        Check.asks("defended: no replacements", 0, Make::richDefended, p -> p.replacements(0, 0));
        Check.asks("defended: the quorum holds", 0, Make::richDefended, p -> p.completion(0));
        Check.due("defended: completed by nobody", 0, () -> Make.richDefended().complete(0));
        Check.fails("defended: not a member", STATE, () -> Make.richDefended().replacements(0, 7));
    }

    /** Completions are compared as rows of ascending persons: 0 and 5 come ahead of 1 and 2. */
    private static void rowsOfPersons() {
        CommitteePlanner planner = Make.professors(8);
        planner.addThesis(0, 0, 0, 7);
        planner.join(0, 7);
        for (int other : new int[] {1, 2, 3, 4}) {
            planner.setConflict(0, other, true);
        }
        Check.due("rows: 0 and 5 ahead of 1 and 2", Make.set(0, 5), () -> planner.completion(0));
        planner.setConflict(0, 5, true);
        Check.due("rows: 0 and 6", Make.set(0, 6), () -> planner.completion(0));
        planner.setConflict(0, 6, true);
        Check.due("rows: 1 and 2", Make.set(1, 2), () -> planner.completion(0));
        CommitteePlanner fewest = new CommitteePlanner();
        fewest.addPerson(1, 0, 0, 6);
        fewest.addPerson(1, 1, 0, 6);
        fewest.addPerson(0, 0, 0, 6);
        fewest.addPerson(1, 0, 0, 6);
        fewest.addPerson(0, 1, 0, 6);
        fewest.addThesis(0, 0, 0, 0);
        Make.join(fewest, 0, 0, 3);
        Check.due("rows: one person ahead of two", Make.set(4), () -> fewest.completion(0));
        fewest.setConflict(4, 0, true);
        Check.due("rows: two persons", Make.set(1, 2), () -> fewest.completion(0));
    }

    /** A completion by nobody is a change. */
    private static void completionByNobody() {
        CommitteePlanner planner = Make.rich();
        planner.save();
        planner.restore();
        Check.due("by nobody: complete", 0, () -> planner.complete(0));
        Check.due("by nobody: undo", 0, planner::undo);
        Check.fails("by nobody: one change", NONE, planner::undo);
        CommitteePlanner done = Make.richDefended();
        done.save();
        done.restore();
        Check.due("by nobody: complete a defended one", 0, () -> done.complete(0));
        Check.due("by nobody: undo", 0, done::undo);
        Check.due("by nobody: the members", 7, () -> done.thesis(0, 5));
    }

    /** On the day of a deadline, a defence is not lost yet. */
    private static void dayOfADeadline() {
        int[] deadlines = {9, 20, 25, 30};
        for (int stage = 0; stage < 4; stage++) {
            CommitteePlanner planner = Make.defence();
            Make.goOn(planner, 0, stage);
            int day = deadlines[stage];
            Check.due("deadlines: on the day", 0, () -> planner.pass(day));
            Check.due("deadlines: no days are left", 0, planner::mostUrgent);
            Check.due("deadlines: it can still be placed", 0, () -> planner.whyNotPlace(0, 0, 30, 2));
            Check.due("deadlines: not a day earlier", 12, () -> planner.whyNotPlace(0, 0, 29, 2));
            Check.due("deadlines: it can still go on", stage + 1, () -> planner.goOn(0));
            planner.undo();
            Check.due("deadlines: a day behind", 1, () -> planner.pass(1));
        }
    }

    /** Theses that are served see the places of those ahead of them. */
    private static void servedOnesSeeOthers() {
        CommitteePlanner planner = Make.professors(9);
        for (int i = 0; i < 3; i++) {
            planner.addThesis(0, 0, 0, 8);
        }
        Make.join(planner, 0, 0, 1, 2);
        Make.join(planner, 1, 2, 3, 4);
        Make.join(planner, 2, 5, 6, 7);
        planner.await(1);
        planner.await(2);
        planner.await(0);
        Check.due("see others: all are served", 3, planner::serve);
        int[][] due = {{0, 21, 2}, {0, 21, 0}, {1, 21, 0}};
        for (int i = 0; i < 3; i++) {
            for (int what = 0; what < 3; what++) {
                int thesis = i;
                int asked = 6 + what;
                Check.due("see others: thesis " + i, due[i][what], () -> planner.thesis(thesis, asked));
            }
        }
        CommitteePlanner old = Make.professors(9);
        old.addThesis(0, 0, 0, 8);
        old.addThesis(0, 0, 0, 8);
        Make.join(old, 0, 0, 1, 2);
        Make.join(old, 1, 3, 4, 5);
        old.await(0);
        old.await(1);
        old.place(1, 0, 21, 0);
        Check.due("see others: those behind, too", 2, old::serve);
        Check.due("see others: the room of the one behind is taken", 1, () -> old.thesis(0, 6));
        Check.due("see others: the same room again", 0, () -> old.thesis(1, 6));
    }

    /** To await again tells the place, and is a change. */
    private static void awaitAgain() {
        CommitteePlanner planner = Make.rich();
        planner.await(2);
        planner.save();
        planner.restore();
        Check.due("await again: the last one", 1, () -> planner.await(2));
        Check.due("await again: the first one", 0, () -> planner.await(1));
        Check.due("await again: two wait", 2, () -> planner.account(6));
        Check.due("await again: undo", 1, planner::undo);
        Check.due("await again: undo", 0, planner::undo);
        Check.due("await again: two wait still", 2, () -> planner.account(6));
    }

    /** All committees count for the accounts 4 and 5, and all hours for the number of busy ones. */
    private static void allCommitteesAndHours() {
        CommitteePlanner planner = Make.richDefended();
        Check.due("all count: members", 6, () -> planner.account(4));
        Check.due("all count: quorums", 2, () -> planner.account(5));
        planner.join(2, 7);
        Check.due("all count: members of one without a quorum", 7, () -> planner.account(4));
        Check.due("all count: quorums without it", 2, () -> planner.account(5));
        planner.setBusy(0, 0, 0, true);
        planner.setBusy(0, 30, 2, true);
        planner.setBusy(0, 400, 7, true);
        Check.due("all count: hours that are over, and of defences", 3, () -> planner.person(0, 7));
        Check.due("all count: an hour that is over", 1, () -> planner.person(6, 7));
        planner.pass(1);
        Check.due("all count: days pass", 3, () -> planner.person(0, 7));
    }

    /**
     * In a text, theses, rooms and days that there are not, and numbers of days that cannot pass, are
     * right, and cannot be done.
     */
    private static void rightAndCannotBeDone() {
        String[] texts = {"j3,0;", "j9,0;", "l3,0;", "l9,0;", "n3;", "n9;", "p3@0,40,0;", "p9@0,40,0;", "p0@3,40,0;",
            "p0@9,40,0;", "p0@0,401,0;", "p0@0,999,0;", "p0@0,40,7;", "p0@0,40,8;", "p0@0,40,9;", "j0,8;", "j0,14;",
            "j0,999;", "l0,8;", "l0,999;", "d0;", "d00;", "d000;", "d100;", "d999;"};
        for (String text : texts) {
            CommitteePlanner planner = Make.rich();
            Check.outcome(planner::read);
            Check.fails("right: " + text, STATE, () -> Make.read(planner, text));
            Check.due("right: " + text + " has no error position", 1, planner::errorPosition);
            Check.due("right: " + text + " keeps no reason", 1, planner::reason);
            Check.fails("right: " + text + " behind one that can be done", STATE,
                    () -> Make.read(planner, "d1;" + text));
            Check.due("right: nothing is done", 3, () -> planner.account(7));
            Check.due("right: the input is empty", 1, () -> planner.append('d'));
        }
        CommitteePlanner late = Make.toLastDay(Make.rich());
        Check.fails("right: the input was d", ARGUMENT, late::read);
        Check.fails("right: there is no day 401", STATE, () -> Make.read(late, "d1;"));
    }

    /** What is undone or not done by a text goes back with all accounts. */
    private static void whatGoesBack() {
        String changes = "l0,0;j0,3;l1,3;j2,7;d9;";
        CommitteePlanner undone = Make.rich();
        Check.outcome(undone::read);
        String before = Sight.of(undone);
        Check.due("goes back: a text", 5, () -> Make.read(undone, changes));
        int[] due = {8, 3, 0, 0, 6, 1, 1, 12, 0, 1};
        for (int account = 0; account < 10; account++) {
            int asked = account;
            Check.due("goes back: account " + account, due[account], () -> undone.account(asked));
        }
        undone.undo();
        Check.same("goes back: undone", before, Sight.of(undone));
        Check.fails("goes back: not done", STATE, () -> Make.read(undone, changes + "n0;"));
        Check.same("goes back: after it was not done", before, Sight.of(undone));
        CommitteePlanner lost = Make.rich();
        Check.due("goes back: a place lost by days", 1, () -> lost.pass(9));
        Check.due("goes back: lost so far", 1, () -> lost.account(8));
        lost.undo();
        Check.due("goes back: none lost", 0, () -> lost.account(8));
        Check.due("goes back: one placed", 1, () -> lost.account(2));
        Check.outcome(lost::read);
        Check.fails("goes back: lost by a text that cannot be done", STATE, () -> Make.read(lost, "d9;d0;"));
        Check.due("goes back: none lost", 0, () -> lost.account(8));
        Check.due("goes back: the day", 3, () -> lost.account(7));
        Make.read(lost, "d9;");
        lost.undo();
        Check.due("goes back: none lost by a text", 0, () -> lost.account(8));
    }
}
