import java.util.NoSuchElementException;

/** Promises 9 to 19: theses and committees. */
public final class CommitteesTest {

    private static final Class<IllegalArgumentException> ARGUMENT = IllegalArgumentException.class;
    private static final Class<IllegalStateException> STATE = IllegalStateException.class;
    private static final Class<IndexOutOfBoundsException> INDEX = IndexOutOfBoundsException.class;
    private static final Class<NoSuchElementException> NONE = NoSuchElementException.class;
    private static final Class<UnsupportedOperationException> REFUSED = UnsupportedOperationException.class;

    public static void main(String[] args) {
        promise9();
        promise10();
        promise11();
        reasonsToRefuseJoin();
        promise12();
        promise13();
        reasonsToRefuseReplace();
        promise14();
        promise15();
        promise16();
        promise17();
        completionAndQuorums();
        promise18();
        promise19();
        Check.end("CommitteesTest");
    }

    private static void promise9() {
        CommitteePlanner planner = Make.professors(2);
        Check.due("9: addThesis", 0, () -> planner.addThesis(0, 0, 0, 0));
        Check.due("9: addThesis", 1, () -> planner.addThesis(2, 5, 3, 1));
        Check.fails("9: no such supervisor", INDEX, () -> planner.addThesis(0, 0, 0, 2));
        Check.fails("9: no supervisor comes first", INDEX, () -> planner.addThesis(9, 9, 9, -1));
        int[][] wrong = {{-1, 0, 0}, {3, 0, 0}, {0, -1, 0}, {0, 6, 0}, {0, 0, -1}, {0, 0, 4}};
        for (int[] a : wrong) {
            Check.fails("9: out of range", ARGUMENT, () -> planner.addThesis(a[0], a[1], a[2], 0));
        }
        for (int i = 2; i < 8; i++) {
            Check.due("9: addThesis", i, () -> planner.addThesis(1, 1, 1, 0));
        }
        Check.fails("9: a ninth thesis", STATE, () -> planner.addThesis(1, 1, 1, 0));
        Check.fails("9: out of range comes before", ARGUMENT, () -> planner.addThesis(3, 1, 1, 0));
        Check.due("9: theses", 8, () -> planner.account(1));
    }

    private static void promise10() {
        CommitteePlanner planner = Make.professors(3);
        planner.addThesis(2, 5, 3, 1);
        int[] due = {2, 5, 3, 1, 0, 0, -1, -1, -1, 0, 7};
        for (int what = 0; what < due.length; what++) {
            int asked = what;
            Check.due("10: new thesis, " + what, due[what], () -> planner.thesis(0, asked));
        }
        planner.addThesis(0, 0, 0, 0);
        planner.addThesis(1, 0, 0, 0);
        Check.due("10: most members, kind 0", 5, () -> planner.thesis(1, 10));
        Check.due("10: most members, kind 1", 6, () -> planner.thesis(2, 10));
        Make.join(planner, 1, 0, 2);
        planner.await(1);
        Check.due("10: members", 5, () -> planner.thesis(1, 5));
        Check.due("10: waiting", 1, () -> planner.thesis(1, 9));
        planner.join(1, 1);
        planner.place(1, 2, 50, 6);
        planner.goOn(1);
        int[] placed = {0, 0, 0, 0, 1, 7, 2, 50, 6, 1, 5};
        for (int what = 0; what < placed.length; what++) {
            int asked = what;
            Check.due("10: placed thesis, " + what, placed[what], () -> planner.thesis(1, asked));
        }
        Check.fails("10: no such thesis", INDEX, () -> planner.thesis(3, 0));
        Check.fails("10: no such thesis", INDEX, () -> planner.thesis(-1, 99));
        Check.fails("10: what below 0", ARGUMENT, () -> planner.thesis(0, -1));
        Check.fails("10: what above 10", ARGUMENT, () -> planner.thesis(0, 11));
    }

    private static void promise11() {
        CommitteePlanner planner = Make.professors(7);
        planner.addThesis(0, 0, 0, 0);
        Check.due("11: the supervisor, kind 0", 1, () -> planner.join(0, 0));
        Check.due("11: join", 2, () -> planner.join(0, 4));
        Check.due("11: members", Make.set(0, 4), () -> planner.thesis(0, 5));
        Check.fails("11: no such thesis", INDEX, () -> planner.join(1, 0));
        Check.fails("11: no such person", INDEX, () -> planner.join(0, 7));
        Check.fails("11: no such person", INDEX, () -> planner.join(0, -1));
        Check.due("11: join is a change", 8, () -> {
            planner.undo();
            return planner.account(0) + planner.account(4);
        });
    }

    private static void refusedJoin(CommitteePlanner planner, int thesis, int person, int reason) {
        int members = planner.thesis(thesis, 5);
        Check.due("14: whyNotJoin", reason, () -> planner.whyNotJoin(thesis, person));
        Check.fails("11: refused for " + reason, REFUSED, () -> planner.join(thesis, person));
        Check.due("19: reason", reason, planner::reason);
        Check.due("11: refused, members stay", members, () -> planner.thesis(thesis, 5));
    }

    private static void reasonsToRefuseJoin() {
        CommitteePlanner planner = Make.committee();
        planner.addThesis(1, 0, 0, 4);
        refusedJoin(planner, 0, 1, 1);
        refusedJoin(planner, 1, 4, 2);
        planner.setConflict(3, 5, true);
        planner.setConflict(3, 0, true);
        refusedJoin(planner, 0, 3, 3);
        planner.setConflict(3, 5, false);
        refusedJoin(planner, 0, 3, 4);
        planner.join(1, 0);
        planner.setConflict(4, 0, true);
        refusedJoin(planner, 1, 4, 2);
        refusedJoin(planner, 1, 0, 1);
        limits();
        fullCommittee();
        busyJoiners();
    }

    private static void limits() {
        CommitteePlanner planner = Make.professors(5);
        int limited = planner.addPerson(0, 1, 0, 2);
        for (int i = 0; i < 4; i++) {
            planner.addThesis(0, 0, 0, 0);
            Make.join(planner, i, 1, 2, 3);
        }
        planner.join(0, limited);
        planner.join(1, limited);
        refusedJoin(planner, 2, limited, 5);
        planner.place(0, 0, 21, 0);
        Make.goOn(planner, 0, 3);
        planner.pass(21);
        refusedJoin(planner, 2, limited, 5);
        planner.goOn(0);
        Check.due("11: defended ones do not count", 4, () -> planner.join(2, limited));
        refusedJoin(planner, 3, limited, 5);
        planner.leave(1, limited);
        Check.due("11: below the limit again", 4, () -> planner.join(3, limited));
    }

    private static void fullCommittee() {
        CommitteePlanner planner = Make.professors(14);
        for (int kind = 0; kind < 3; kind++) {
            planner.addThesis(kind, 0, 1, 13);
            for (int person = 0; person < 5 + kind; person++) {
                planner.join(kind, person);
            }
            refusedJoin(planner, kind, 5 + kind, 6);
        }
        // the earlier reasons come first in a full committee
        refusedJoin(planner, 0, 0, 1);
        planner.setConflict(8, 0, true);
        refusedJoin(planner, 0, 8, 4);
        CommitteePlanner small = Make.professors(6);
        small.addPerson(0, 1, 0, 1);
        small.addThesis(0, 0, 0, 5);
        small.addThesis(0, 0, 0, 5);
        Make.join(small, 0, 0, 1, 2, 3, 4);
        small.join(1, 6);
        refusedJoin(small, 0, 6, 5);
    }

    private static void busyJoiners() {
        CommitteePlanner planner = Make.defence();
        planner.setBusy(3, 30, 3, true);
        refusedJoin(planner, 0, 3, 7);
        planner.setBusy(3, 30, 3, false);
        planner.setBusy(3, 30, 4, true);
        planner.setBusy(3, 30, 1, true);
        Check.due("11: busy ahead and behind", 4, () -> planner.join(0, 3));
        planner.addThesis(0, 0, 0, 5);
        planner.join(1, 4);
        planner.join(1, 0);
        planner.join(1, 1);
        planner.place(1, 1, 30, 4);
        Check.due("11: a defence behind", 0, () -> planner.whyNotJoin(0, 4));
        Check.due("11: two busy hours of the room", 30, () -> planner.thesis(1, 7));
        planner.place(1, 1, 30, 0);
        Check.due("11: a defence ahead", 0, () -> planner.whyNotJoin(0, 4));
        planner.leave(1, 0);
        Check.due("12: the place is lost", -1, () -> planner.thesis(1, 7));
        planner.leave(1, 1);
        Make.join(planner, 1, 5);
        planner.addPerson(0, 1, 0, 6);
        planner.join(1, 6);
        planner.place(1, 1, 30, 1);
        refusedJoin(planner, 0, 4, 7);
        CommitteePlanner done = Make.defended();
        refusedJoin(done, 0, 3, 8);
        refusedJoin(done, 0, 0, 1);
        done.setBusy(3, 30, 2, true);
        refusedJoin(done, 0, 3, 7);
    }

    private static void promise12() {
        CommitteePlanner planner = Make.defence();
        planner.join(0, 3);
        Check.due("12: leave", 3, () -> planner.leave(0, 0));
        Check.due("12: the place stays", 30, () -> planner.thesis(0, 7));
        Check.due("12: leave", 2, () -> planner.leave(0, 3));
        Check.due("12: members", Make.set(1, 2), () -> planner.thesis(0, 5));
        for (int what = 6; what <= 8; what++) {
            int asked = what;
            Check.due("12: the place is lost", -1, () -> planner.thesis(0, asked));
        }
        Check.due("12: lost, but not by days", 0, () -> planner.account(8));
        Check.due("12: undo gives the place back", 0, () -> planner.undo() * 0 + planner.thesis(0, 6));
        Check.fails("12: not a member", STATE, () -> planner.leave(0, 4));
        Check.fails("12: no such thesis", INDEX, () -> planner.leave(1, 0));
        Check.fails("12: no such person", INDEX, () -> planner.leave(0, 6));
        CommitteePlanner done = Make.defended();
        Check.fails("12: defended", STATE, () -> done.leave(0, 0));
        CommitteePlanner stage = Make.defence();
        stage.goOn(0);
        stage.leave(0, 1);
        Check.due("12: the stage stays", 1, () -> stage.thesis(0, 4));
    }

    private static void promise13() {
        CommitteePlanner planner = Make.defence();
        planner.addPerson(0, 0, 0, 6);
        Check.due("13: replace", 1, () -> planner.replace(0, 1, 3));
        Check.due("13: members", Make.set(0, 2, 3), () -> planner.thesis(0, 5));
        Check.due("13: the place stays", 30, () -> planner.thesis(0, 7));
        Check.due("13: by the same person", 1, () -> planner.replace(0, 3, 3));
        Check.due("13: members stay", Make.set(0, 2, 3), () -> planner.thesis(0, 5));
        Check.due("13: it is a change", 5, planner::undo);
        Check.fails("13: no such thesis", INDEX, () -> planner.replace(1, 0, 0));
        Check.fails("13: no such member", INDEX, () -> planner.replace(0, 7, 0));
        Check.fails("13: no such person", INDEX, () -> planner.replace(0, 4, 7));
        Check.fails("13: not a member", STATE, () -> planner.replace(0, 4, 1));
        Check.fails("13: not a member, nor a joiner", STATE, () -> planner.replace(0, 4, 0));
        CommitteePlanner guest = new CommitteePlanner();
        guest.addPerson(0, 1, 0, 6);
        guest.addPerson(1, 1, 0, 6);
        guest.addPerson(1, 1, 0, 6);
        guest.addPerson(1, 1, 0, 6);
        guest.addThesis(0, 0, 0, 3);
        Make.join(guest, 0, 0, 1, 2);
        guest.place(0, 1, 21, 4);
        Check.due("13: the only professor", 0, () -> guest.replace(0, 0, 3));
        Check.due("13: the place is lost", -1, () -> guest.thesis(0, 7));
        Check.due("13: members", Make.set(1, 2, 3), () -> guest.thesis(0, 5));
        Check.due("13: back, and the quorum holds", 1, () -> guest.replace(0, 3, 0));
        Check.due("13: without a place still", -1, () -> guest.thesis(0, 6));
    }

    private static void refusedReplace(CommitteePlanner planner, int member, int person, int reason) {
        int members = planner.thesis(0, 5);
        Check.fails("13: refused for " + reason, REFUSED, () -> planner.replace(0, member, person));
        Check.due("19: reason", reason, planner::reason);
        Check.due("13: refused, members stay", members, () -> planner.thesis(0, 5));
    }

    private static void reasonsToRefuseReplace() {
        CommitteePlanner planner = Make.defence();
        refusedReplace(planner, 0, 1, 1);
        planner.setConflict(3, 0, true);
        refusedReplace(planner, 1, 3, 4);
        Check.due("13: in conflict with the member who left", 1, () -> planner.replace(0, 0, 3));
        planner.setConflict(4, 5, true);
        refusedReplace(planner, 1, 4, 3);
        planner.setConflict(1, 5, true);
        refusedReplace(planner, 1, 1, 3);
        planner.setConflict(1, 5, false);
        planner.setBusy(1, 30, 3, true);
        refusedReplace(planner, 1, 1, 7);
        planner.setBusy(1, 30, 3, false);
        planner.join(0, 5);
        planner.addPerson(0, 1, 0, 6);
        planner.join(0, 6);
        Check.due("13: in a full committee", 1, () -> planner.replace(0, 1, 1));
        CommitteePlanner limited = new CommitteePlanner();
        for (int i = 0; i < 4; i++) {
            limited.addPerson(0, 1, 0, 1);
        }
        limited.addThesis(0, 0, 0, 0);
        limited.addThesis(0, 0, 0, 0);
        Make.join(limited, 0, 0, 1, 2);
        Check.due("13: the committee itself does not count", 1, () -> limited.replace(0, 1, 1));
        limited.join(1, 3);
        refusedReplace(limited, 1, 3, 5);
        CommitteePlanner supervised = Make.professors(6);
        supervised.addThesis(1, 0, 1, 5);
        supervised.join(0, 0);
        refusedReplace(supervised, 0, 5, 2);
        CommitteePlanner done = Make.defended();
        refusedReplace(done, 0, 3, 8);
        refusedReplace(done, 0, 0, 8);
        refusedReplace(done, 0, 1, 1);
        done.setBusy(3, 30, 2, true);
        refusedReplace(done, 0, 3, 7);
        Check.fails("13: defended, not a member", STATE, () -> done.replace(0, 3, 4));
    }

    private static void promise14() {
        CommitteePlanner planner = Make.committee();
        Check.due("14: could join", 0, () -> planner.whyNotJoin(0, 3));
        Check.due("14: only a question", 1, () -> planner.whyNotJoin(0, 0));
        Check.fails("14: keeps no reason", NONE, planner::reason);
        Check.fails("14: no such thesis", INDEX, () -> planner.whyNotJoin(1, 0));
        Check.fails("14: no such thesis", INDEX, () -> planner.whyNotJoin(-1, 0));
        Check.fails("14: no such person", INDEX, () -> planner.whyNotJoin(0, 6));
    }

    private static void promise15() {
        int[][] quorums = {{3, 1, 0, 1, 0}, {4, 2, 1, 2, 1}, {5, 3, 1, 3, 2}};
        CommitteePlanner planner = new CommitteePlanner();
        planner.addPerson(0, 2, 1, 6);
        planner.addPerson(1, 1, 0, 6);
        planner.addPerson(2, 3, 0, 6);
        planner.addPerson(1, 0, 2, 6);
        planner.addPerson(1, 0, 2, 6);
        planner.addPerson(1, 0, 2, 6);
        for (int kind = 0; kind < 3; kind++) {
            planner.addThesis(kind, 0, 0, 1);
            lacksAre(planner, kind, quorums[kind]);
        }
        planner.join(2, 0);
        lacksAre(planner, 2, new int[] {4, 2, 1, 3, 1});
        planner.join(2, 2);
        lacksAre(planner, 2, new int[] {3, 2, 0, 2, 1});
        Make.join(planner, 2, 3);
        lacksAre(planner, 2, new int[] {2, 2, 0, 2, 0});
        Make.join(planner, 2, 4, 5);
        lacksAre(planner, 2, new int[] {0, 2, 0, 2, 0});
        Check.fails("15: no such thesis", INDEX, () -> planner.lacks(3, 0));
        Check.fails("15: no such thesis", INDEX, () -> planner.lacks(-1, 7));
        Check.fails("15: what below 0", ARGUMENT, () -> planner.lacks(0, -1));
        Check.fails("15: what above 4", ARGUMENT, () -> planner.lacks(0, 5));
    }

    private static void lacksAre(CommitteePlanner planner, int thesis, int[] due) {
        for (int what = 0; what < 5; what++) {
            int asked = what;
            Check.due("15: lacks " + what, due[what], () -> planner.lacks(thesis, asked));
        }
    }

    private static void promise16() {
        CommitteePlanner planner = Make.committee();
        Check.due("16: replacements", Make.set(3, 4, 5), () -> planner.replacements(0, 1));
        planner.addPerson(1, 0, 0, 6);
        Check.due("16: a doctor for one of three", Make.set(3, 4, 5, 6), () -> planner.replacements(0, 1));
        planner.setConflict(3, 1, true);
        Check.due("16: in conflict with the one who left", Make.set(3, 4, 5, 6), () -> planner.replacements(0, 1));
        Check.due("16: in conflict with a member", Make.set(4, 5, 6), () -> planner.replacements(0, 0));
        planner.place(0, 0, 21, 0);
        planner.setBusy(4, 21, 1, true);
        Check.due("16: not free", Make.set(5, 6), () -> planner.replacements(0, 0));
        Check.fails("16: not a member", STATE, () -> planner.replacements(0, 3));
        Check.fails("16: no such thesis", INDEX, () -> planner.replacements(1, 0));
        Check.fails("16: no such person", INDEX, () -> planner.replacements(0, 7));
        CommitteePlanner few = Make.professors(4);
        few.addPerson(1, 1, 0, 6);
        few.addThesis(0, 0, 0, 3);
        Make.join(few, 0, 0);
        Check.due("16: the quorum would not hold", 0, () -> few.replacements(0, 0));
        CommitteePlanner professor = new CommitteePlanner();
        professor.addPerson(0, 1, 0, 6);
        for (int i = 0; i < 4; i++) {
            professor.addPerson(1, 1, 0, 6);
        }
        professor.addPerson(0, 1, 0, 6);
        professor.addThesis(0, 0, 0, 4);
        Make.join(professor, 0, 0, 1, 2);
        Check.due("16: only a professor", Make.set(5), () -> professor.replacements(0, 0));
        Check.due("16: anybody", Make.set(3, 4, 5), () -> professor.replacements(0, 1));
        CommitteePlanner done = Make.defended();
        Check.due("16: defended", 0, () -> done.replacements(0, 0));
        Check.fails("16: defended, not a member", STATE, () -> done.replacements(0, 3));
    }

    private static void promise17() {
        CommitteePlanner planner = Make.professors(7);
        planner.addThesis(0, 0, 0, 6);
        Check.due("17: completion", Make.set(0, 1, 2), () -> planner.completion(0));
        planner.join(0, 4);
        Check.due("17: with a member", Make.set(0, 1), () -> planner.completion(0));
        planner.setConflict(0, 4, true);
        Check.due("17: in conflict with a member", Make.set(1, 2), () -> planner.completion(0));
        planner.setConflict(1, 2, true);
        Check.due("17: in conflict with each other", Make.set(1, 3), () -> planner.completion(0));
        planner.setConflict(1, 3, true);
        planner.setConflict(1, 5, true);
        planner.setConflict(1, 6, true);
        Check.due("17: the supervisor's enemy", Make.set(2, 3), () -> planner.completion(0));
        Make.join(planner, 0, 2, 3);
        Check.due("17: by nobody", 0, () -> planner.completion(0));
        Check.fails("17: no such thesis", INDEX, () -> planner.completion(1));
        Check.fails("17: no such thesis", INDEX, () -> planner.completion(-1));
        CommitteePlanner two = Make.professors(2);
        two.addThesis(0, 0, 0, 0);
        Check.fails("17: too few persons", NONE, () -> two.completion(0));
        CommitteePlanner done = Make.defended();
        Check.due("17: defended, the quorum holds", 0, () -> done.completion(0));
        CommitteePlanner rows = new CommitteePlanner();
        rows.addPerson(0, 0, 0, 6);
        rows.addPerson(1, 0, 0, 6);
        rows.addPerson(1, 0, 0, 6);
        rows.addPerson(1, 0, 0, 6);
        rows.addPerson(1, 1, 0, 6);
        rows.addPerson(0, 1, 0, 6);
        rows.addThesis(0, 0, 0, 3);
        Make.join(rows, 0, 3);
        Check.due("17: 0 and 4 ahead of 1 and 5", Make.set(0, 4), () -> rows.completion(0));
        rows.setConflict(0, 4, true);
        Check.due("17: 0 and 5 ahead of 1 and 2 and the like", Make.set(0, 5), () -> rows.completion(0));
    }

    private static void completionAndQuorums() {
        CommitteePlanner planner = new CommitteePlanner();
        planner.addPerson(1, 0, 0, 6);
        planner.addPerson(1, 0, 0, 6);
        planner.addPerson(1, 0, 0, 6);
        planner.addPerson(0, 0, 0, 6);
        planner.addPerson(1, 1, 0, 6);
        planner.addThesis(0, 0, 0, 0);
        Make.join(planner, 0, 0, 1, 2);
        Check.due("17: more than the members that lack", Make.set(3, 4), () -> planner.completion(0));
        Check.due("18: complete", 2, () -> planner.complete(0));
        Check.due("18: members stay", Make.set(0, 1, 2, 3, 4), () -> planner.thesis(0, 5));
        Check.fails("17: no room for more", NONE, () -> {
            planner.addThesis(0, 5, 0, 0);
            Make.join(planner, 1, 0, 1, 2, 4);
            return planner.completion(1);
        });
        CommitteePlanner crowded = new CommitteePlanner();
        for (int i = 0; i < 6; i++) {
            crowded.addPerson(i == 4 ? 0 : 1, i == 5 ? 1 : 0, 0, 6);
        }
        crowded.addThesis(0, 0, 0, 0);
        Make.join(crowded, 0, 0, 1, 2, 3);
        Check.fails("17: room for one of two", NONE, () -> crowded.completion(0));
        crowded.leave(0, 2);
        Check.due("17: room for both", Make.set(4, 5), () -> crowded.completion(0));
        CommitteePlanner big = new CommitteePlanner();
        for (int i = 0; i < 8; i++) {
            big.addPerson(i < 5 ? 1 : 0, 63, i % 2, 1);
        }
        for (int i = 8; i < 14; i++) {
            big.addPerson(i == 13 ? 2 : 1, 0, 0, 1);
        }
        big.addThesis(2, 0, 0, 12);
        Check.due("17: kind 2", Make.set(0, 5, 6, 7, 13), () -> big.completion(0));
        big.setConflict(12, 13, true);
        Check.fails("17: the only guest is refused", NONE, () -> big.completion(0));
        big.setConflict(12, 13, false);
        big.addThesis(0, 0, 0, 12);
        big.join(1, 5);
        Check.fails("17: a limit", NONE, () -> big.completion(0));
    }

    private static void promise18() {
        CommitteePlanner planner = Make.professors(6);
        planner.addThesis(0, 0, 0, 5);
        Check.due("18: complete", 3, () -> planner.complete(0));
        Check.due("18: members", Make.set(0, 1, 2), () -> planner.thesis(0, 5));
        Check.due("18: by nobody", 0, () -> planner.complete(0));
        Check.due("18: by nobody is a change", 5, planner::undo);
        planner.undo();
        Check.due("18: undone", 0, () -> planner.thesis(0, 5));
        planner.setConflict(5, 0, true);
        planner.setConflict(5, 1, true);
        planner.setConflict(5, 2, true);
        planner.setConflict(5, 3, true);
        Check.fails("18: there is none", NONE, () -> planner.complete(0));
        Check.fails("18: no such thesis", INDEX, () -> planner.complete(1));
        Check.fails("18: keeps no reason", NONE, planner::reason);
        CommitteePlanner done = Make.defended();
        Check.due("18: defended", 0, () -> done.complete(0));
    }

    private static void promise19() {
        CommitteePlanner planner = Make.committee();
        Check.fails("19: none was kept", NONE, planner::reason);
        Check.fails("19: place refused", REFUSED, () -> planner.place(0, 0, 20, 0));
        Check.due("19: of place", 12, planner::reason);
        Check.fails("19: join refused", REFUSED, () -> planner.join(0, 0));
        Check.due("19: the last one", 1, planner::reason);
        planner.join(0, 3);
        Check.due("19: stays", 1, planner::reason);
        planner.undo();
        Check.due("19: stays behind undo", 1, planner::reason);
        planner.clear();
        Check.due("19: stays behind clear", 1, planner::reason);
    }
}
