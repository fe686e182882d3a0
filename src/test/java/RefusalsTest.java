import java.util.NoSuchElementException;

/**
 * Each exception that is not about the range of a number, each on a planner of its own: the call throws
 * it, and the state, the history, the input and what was saved are as without the call. The same for calls
 * that only answer a question.
 */
public final class RefusalsTest {

    private static final Class<ArithmeticException> ARITHMETIC = ArithmeticException.class;
    private static final Class<IllegalArgumentException> ARGUMENT = IllegalArgumentException.class;
    private static final Class<IllegalStateException> STATE = IllegalStateException.class;
    private static final Class<NoSuchElementException> NONE = NoSuchElementException.class;

    private interface Step {
        void on(CommitteePlanner planner);
    }

    public static void main(String[] args) {
        newPlanner();
        persons();
        committees();
        completions();
        defences();
        stages();
        waitingAndDays();
        textsOfWrongForm();
        textsThatCannotBeDone();
        questions();
        Check.end("RefusalsTest");
    }

    /** A planner as rich, behind a step. */
    private static Check.Maker richBehind(Step step) {
        return () -> {
            CommitteePlanner planner = Make.rich();
            step.on(planner);
            return planner;
        };
    }

    private static void newPlanner() {
        Check.Maker maker = CommitteePlanner::new;
        Check.refuses("19: reason, none kept", NONE, maker, CommitteePlanner::reason);
        Check.refuses("26: mostUrgent, no theses", NONE, maker, CommitteePlanner::mostUrgent);
        Check.refuses("27: inRoom, no theses", NONE, maker, p -> p.inRoom(0, 0, 0));
        Check.refuses("30: waiting, an empty line", NONE, maker, p -> p.waiting(0));
        Check.refuses("33: meanLoad, no persons", ARITHMETIC, maker, CommitteePlanner::meanLoad);
        Check.refuses("36: errorPosition, none kept", NONE, maker, CommitteePlanner::errorPosition);
        Check.refuses("37: undo, no change", NONE, maker, CommitteePlanner::undo);
        Check.refuses("39: restore, nothing saved", STATE, maker, CommitteePlanner::restore);
        Check.refuses("39: restore, nothing saved", STATE, Make::defended, CommitteePlanner::restore);
        Check.refuses("9: addThesis, no persons", IndexOutOfBoundsException.class, maker,
                p -> p.addThesis(0, 0, 0, 0));
    }

    private static void persons() {
        Check.refuses("3: a fifteenth person", STATE, Make::full, p -> p.addPerson(0, 1, 0, 6));
        Check.refuses("9: a ninth thesis", STATE, Make::full, p -> p.addThesis(0, 0, 0, 0));
        for (boolean isOn : new boolean[] {true, false}) {
            Check.refuses("4: both the same", ARGUMENT, Make::rich, p -> p.setConflict(5, 5, isOn));
        }
        Check.refuses("8: no free day", NONE, richBehind(p -> {
            Make.toLastDay(p);
            p.setBusy(6, 400, 0, true);
        }), p -> p.freeDay(6));
    }

    private static void committees() {
        Check.refuses("12: leave, not a member", STATE, Make::rich, p -> p.leave(0, 3));
        Check.refuses("12: leave, defended", STATE, Make::richDefended, p -> p.leave(0, 0));
        Check.refuses("12: leave, defended and not a member", STATE, Make::richDefended, p -> p.leave(0, 3));
        Check.refuses("13: replace, not a member", STATE, Make::rich, p -> p.replace(0, 3, 4));
        Check.refuses("13: replace, not a member, by a member", STATE, Make::rich, p -> p.replace(0, 3, 0));
        Check.refuses("13: replace, not a member, by the same", STATE, Make::rich, p -> p.replace(0, 3, 3));
        Check.refuses("13: replace, defended and not a member", STATE, Make::richDefended, p -> p.replace(0, 3, 4));
        Check.refuses("16: replacements, not a member", STATE, Make::rich, p -> p.replacements(0, 3));
        Check.refuses("16: replacements, defended and not a member", STATE, Make::richDefended,
                p -> p.replacements(0, 3));
    }

    private static void completions() {
        Check.Maker tooFew = richBehind(p -> {
            for (int i = 0; i < 5; i++) {
                p.setConflict(i, 7, true);
            }
            // 5 and 6 are in conflict, so only 7 can join together with one of them
            p.addThesis(1, 0, 0, 0);
        });
        Check.refuses("17: completion, too few together", NONE, tooFew, p -> p.completion(2));
        Check.refuses("18: complete, too few together", NONE, tooFew, p -> p.complete(2));
        Check.refuses("17: completion, no guest", NONE, tooFew, p -> p.completion(3));
        Check.refuses("18: complete, no guest", NONE, tooFew, p -> p.complete(3));
    }

    private static void defences() {
        Check.refuses("21: takeBack, not placed", STATE, Make::rich, p -> p.takeBack(1));
        Check.refuses("21: takeBack, defended", STATE, Make::richDefended, p -> p.takeBack(0));
        Check.refuses("23: earliest, no quorum", NONE, Make::rich, p -> p.earliest(2));
        Check.refuses("23: earliest, defended", NONE, Make::richDefended, p -> p.earliest(0));
        Check.refuses("23: earliest, too late", NONE, richBehind(Make::toLastDay), p -> p.earliest(1));
        Check.refuses("24: deadline, not placed", STATE, Make::rich, p -> p.deadline(1, 1));
        Check.refuses("26: mostUrgent, none placed", NONE, richBehind(p -> p.takeBack(0)),
                CommitteePlanner::mostUrgent);
        Check.refuses("26: mostUrgent, only a defended one", NONE, Make::richDefended, CommitteePlanner::mostUrgent);
        Check.refuses("27: inRoom, ahead of the defence", NONE, Make::rich, p -> p.inRoom(0, 30, 1));
        Check.refuses("27: inRoom, behind the defence", NONE, Make::rich, p -> p.inRoom(0, 30, 4));
        Check.refuses("27: inRoom, another room", NONE, Make::rich, p -> p.inRoom(1, 30, 2));
        Check.refuses("27: inRoom, another day", NONE, Make::rich, p -> p.inRoom(0, 31, 2));
    }

    private static void stages() {
        Check.refuses("25: goOn, not placed", STATE, Make::rich, p -> p.goOn(1));
        Check.refuses("25: goOn, defended", STATE, Make::richDefended, p -> p.goOn(0));
        for (int days : new int[] {1, 26}) {
            Check.refuses("25: goOn, not on the day of the defence", STATE, richBehind(p -> {
                Make.goOn(p, 0, 3);
                p.pass(days);
            }), p -> p.goOn(0));
        }
    }

    private static void waitingAndDays() {
        Check.refuses("28: await, placed", STATE, Make::rich, p -> p.await(0));
        Check.refuses("28: await, defended", STATE, Make::richDefended, p -> p.await(0));
        Check.refuses("28: await, waiting and placed", STATE, richBehind(p -> p.place(1, 1, 50, 0)), p -> p.await(1));
        Check.refuses("30: waiting, behind the last one", NONE, Make::rich, p -> p.waiting(1));
        Check.refuses("31: pass, day 401", STATE, richBehind(p -> {
            Make.toLastDay(p);
            p.undo();
        }), p -> p.pass(99));
        Check.refuses("31: pass, on day 400", STATE, richBehind(Make::toLastDay), p -> p.pass(1));
        Check.refuses("34: append, 60 characters", STATE, richBehind(p -> Make.type(p, ";".repeat(59))),
                p -> p.append(';'));
    }

    /** Reads a text on a planner as rich whose input is empty; but for the error position all is as it was. */
    private static void textsOfWrongForm() {
        Check.Maker maker = richBehind(p -> Check.outcome(p::read));
        for (String text : new String[] {"", "x", "l0,0;x", "l0,0", "pass", "d1;d2", "d401;d;", "n9;n"}) {
            CommitteePlanner with = maker.make();
            Check.fails("35: read '" + text + "'", ARGUMENT, () -> Make.read(with, text));
            Check.due("35: read '" + text + "' keeps the reason", 1, with::reason);
            leavesAll("35: read '" + text + "'", maker, with);
        }
    }

    private static void textsThatCannotBeDone() {
        Check.Maker maker = richBehind(p -> Check.outcome(p::read));
        String[] texts = {"d0;", "d100;", "l2,0;", "l0,3;", "n1;", "n3;", "j3,0;", "j0,8;", "l0,8;", "l3,0;",
            "p3@0,30,0;", "p0@3,30,0;", "p0@0,401,0;", "p0@0,30,7;", "l0,0;d9;j1,0;n0;", "d27;n0;n0;n0;n0;p0@0,60,0;",
            "d99;d99;d99;d99;d2;", "j0,3;d23;l0,4;", "n0;d17;n1;"};
        for (String text : texts) {
            CommitteePlanner with = maker.make();
            Check.fails("35: read " + text, STATE, () -> Make.read(with, text));
            Check.due("35: read " + text + " keeps the error position", 1, with::errorPosition);
            Check.due("35: read " + text + " keeps the reason", 1, with::reason);
            leavesAll("35: read " + text, maker, with);
        }
        String[] refused = {"p2@0,30,0;", "p0@1,23,0;", "l0,0;p0@1,40,0;", "d1;j1,6;"};
        int[] reasons = {9, 12, 9, 4};
        for (int i = 0; i < refused.length; i++) {
            String text = refused[i];
            CommitteePlanner with = maker.make();
            Check.fails("35: read " + text, STATE, () -> Make.read(with, text));
            Check.due("35: read " + text + " keeps its reason", reasons[i], with::reason);
            leavesAll("35: read " + text, maker, with);
        }
    }

    private static void leavesAll(String what, Check.Maker maker, CommitteePlanner with) {
        CommitteePlanner without = maker.make();
        Check.same(what + " leaves the state", Sight.ofState(without), Sight.ofState(with));
        Check.same(what + " leaves the rest", Sight.behind(without), Sight.behind(with));
    }

    private static void questions() {
        Check.Maker rich = Make::rich;
        for (int what = 0; what < 8; what++) {
            int asked = what;
            int[] due = {0, 1, 0, 6, Make.set(5), 0, 0, 1};
            Check.asks("6: person " + what, due[what], rich, p -> p.person(6, asked));
        }
        Check.asks("7: isFree", false, rich, p -> p.isFree(0, 30, 3));
        Check.asks("8: freeDay", 3, rich, p -> p.freeDay(0));
        for (int what = 0; what < 11; what++) {
            int asked = what;
            int[] due = {0, 0, 0, 7, 0, 7, 0, 30, 2, 0, 5};
            Check.asks("10: thesis " + what, due[what], rich, p -> p.thesis(0, asked));
        }
        Check.asks("14: whyNotJoin", 1, rich, p -> p.whyNotJoin(0, 0));
        Check.asks("14: whyNotJoin", 0, rich, p -> p.whyNotJoin(0, 3));
        Check.asks("15: lacks", 3, rich, p -> p.lacks(2, 0));
        Check.asks("16: replacements", Make.set(3, 4, 5, 6, 7), rich, p -> p.replacements(0, 0));
        Check.asks("17: completion", 7, rich, p -> p.completion(2));
        Check.asks("19: reason", 1, rich, CommitteePlanner::reason);
        Check.asks("22: whyNotPlace", 12, rich, p -> p.whyNotPlace(0, 0, 23, 0));
        Check.asks("22: whyNotPlace", 0, rich, p -> p.whyNotPlace(0, 0, 24, 0));
        Check.asks("23: earliest", 2400, rich, p -> p.earliest(0));
        Check.asks("24: deadline", 9, rich, p -> p.deadline(0, 1));
        Check.asks("26: mostUrgent", 6, rich, CommitteePlanner::mostUrgent);
        Check.asks("27: inRoom", 0, rich, p -> p.inRoom(0, 30, 3));
        Check.asks("30: waiting", 1, rich, p -> p.waiting(0));
        for (int account = 0; account < 10; account++) {
            int asked = account;
            int[] due = {8, 3, 1, 0, 6, 2, 1, 3, 0, 1};
            Check.asks("32: account " + account, due[account], rich, p -> p.account(asked));
        }
        Check.asks("33: meanLoad", 0.75, rich, CommitteePlanner::meanLoad);
        Check.asks("36: errorPosition", 3, rich, CommitteePlanner::errorPosition);
    }
}
