import java.util.ArrayList;
import java.util.List;
import java.util.NoSuchElementException;

/** Promises 37 to 39: undo, save and restore. */
public final class HistoryTest {

    private static final Class<IllegalStateException> STATE = IllegalStateException.class;
    private static final Class<NoSuchElementException> NONE = NoSuchElementException.class;
    private static final Class<UnsupportedOperationException> REFUSED = UnsupportedOperationException.class;

    public static void main(String[] args) {
        promise37();
        everyChangeIsRemembered();
        whatIsNoChange();
        whatUndoLeaves();
        promise38();
        promise39();
        Check.end("HistoryTest");
    }

    private static void promise37() {
        CommitteePlanner planner = new CommitteePlanner();
        Check.fails("37: no change", NONE, planner::undo);
        for (int i = 0; i < 9; i++) {
            planner.addPerson(0, 1, 0, 6);
        }
        for (int left = 5; left >= 0; left--) {
            int persons = left + 3;
            Check.due("37: undo", left, planner::undo);
            Check.due("37: persons", persons, () -> planner.account(0));
        }
        Check.fails("37: the oldest ones are forgotten", NONE, planner::undo);
        planner.addPerson(2, 3, 1, 4);
        Check.due("37: a change behind undos", 0, planner::undo);
        planner.addPerson(0, 1, 0, 6);
        planner.addPerson(0, 1, 0, 6);
        planner.undo();
        planner.addPerson(1, 5, 2, 3);
        Check.due("37: another way", 5, () -> planner.person(4, 1));
        Check.due("37: two changes", 1, planner::undo);
        Check.due("37: undone", 4, () -> planner.account(0));
    }

    private interface Change {
        void on(CommitteePlanner planner);
    }

    /** Does each kind of change and takes it back: all must be as before. */
    private static void everyChangeIsRemembered() {
        List<Change> changes = new ArrayList<>();
        changes.add(p -> p.addPerson(2, 7, 3, 2));
        changes.add(p -> p.setConflict(0, 3, true));
        changes.add(p -> p.setBusy(0, 400, 7, true));
        changes.add(p -> p.addThesis(2, 5, 3, 0));
        changes.add(p -> p.join(0, 3));
        changes.add(p -> p.leave(0, 0));
        changes.add(p -> p.replace(0, 0, 3));
        changes.add(p -> p.complete(1));
        changes.add(p -> p.place(0, 1, 40, 3));
        changes.add(p -> p.takeBack(0));
        changes.add(p -> p.goOn(0));
        changes.add(p -> p.await(1));
        changes.add(CommitteePlanner::serve);
        changes.add(p -> p.pass(10));
        changes.add(p -> Make.read(p, "l0,0;d99;j1,2;"));
        for (int i = 0; i < changes.size(); i++) {
            CommitteePlanner planner = Make.defence();
            planner.addThesis(0, 0, 0, 5);
            planner.addThesis(0, 0, 0, 4);
            planner.complete(2);
            planner.await(2);
            planner.setBusy(0, 3, 3, true);
            planner.setConflict(4, 5, true);
            String before = Sight.of(planner);
            changes.get(i).on(planner);
            String after = Sight.of(planner);
            Check.same("37: change " + i + " does something", false, before.equals(after));
            Check.due("37: undo of change " + i, 5, planner::undo);
            Check.same("37: change " + i + " is undone", before, Sight.of(planner));
            changes.get(i).on(planner);
            Check.same("37: change " + i + " again", after, Sight.of(planner));
        }
    }

    private static void whatIsNoChange() {
        CommitteePlanner planner = Make.defence();
        planner.clear();
        planner.addPerson(0, 1, 0, 6);
        planner.addThesis(0, 0, 0, 0);
        Check.fails("37: a refusal", REFUSED, () -> planner.place(0, 0, 30, 0));
        Check.fails("37: a wrong call", STATE, () -> planner.leave(0, 0));
        Check.fails("37: a wrong text", IllegalArgumentException.class, () -> Make.read(planner, "x"));
        planner.whyNotJoin(0, 0);
        planner.append('d');
        planner.save();
        Check.due("37: two changes only", 1, planner::undo);
        Check.due("37: the first one is left", 1, () -> planner.account(0));
        Check.due("37: the second one is undone", 0, () -> planner.account(1));
    }

    private static void whatUndoLeaves() {
        CommitteePlanner planner = Make.professors(3);
        planner.addThesis(0, 0, 0, 0);
        planner.save();
        planner.join(0, 1);
        Check.fails("37: a refusal", REFUSED, () -> planner.join(0, 1));
        Check.fails("37: a wrong text", IllegalArgumentException.class, () -> Make.read(planner, "d1"));
        planner.append('d');
        planner.undo();
        Check.due("37: the reason stays", 1, planner::reason);
        Check.due("37: the error position stays", 2, planner::errorPosition);
        Check.due("37: the input stays", 2, () -> planner.append('1'));
        planner.undo();
        Check.due("37: what was saved stays", 1, planner::restore);
    }

    private static void promise38() {
        CommitteePlanner planner = Make.defence();
        planner.setBusy(3, 33, 3, true);
        planner.setConflict(3, 4, true);
        planner.await(planner.addThesis(1, 2, 3, 4));
        planner.pass(9);
        String saved = Sight.of(planner);
        Check.due("38: save", 2, planner::save);
        planner.pass(9);
        planner.setBusy(3, 33, 3, false);
        planner.setBusy(3, 34, 3, true);
        planner.setConflict(3, 4, false);
        planner.addThesis(0, 0, 0, 0);
        planner.addPerson(0, 0, 0, 1);
        Check.due("38: restore", 2, planner::restore);
        Check.same("38: all is as it was saved", saved, Sight.of(planner));
        Check.due("38: the busy hour", true, () -> planner.setBusy(3, 33, 3, true));
        Check.due("38: the free hour", false, () -> planner.setBusy(3, 34, 3, false));
        planner.undo();
        planner.undo();
        planner.addThesis(0, 0, 0, 0);
        Check.due("38: save again", 3, planner::save);
        Check.due("38: save is no change", 0, planner::undo);
        Check.due("38: the older one is replaced", 3, planner::restore);
        CommitteePlanner empty = new CommitteePlanner();
        Check.due("38: save nothing", 0, empty::save);
        Check.due("39: restore nothing", 0, empty::restore);
    }

    private static void promise39() {
        CommitteePlanner planner = Make.committee();
        Check.fails("39: nothing was saved", STATE, planner::restore);
        Check.due("39: the history stays then", 5, planner::undo);
        planner.save();
        planner.join(0, 3);
        Check.fails("39: a refusal", REFUSED, () -> planner.join(0, 3));
        Check.fails("39: a wrong text", IllegalArgumentException.class, () -> Make.read(planner, "d1"));
        planner.append('d');
        Check.due("39: restore", 1, planner::restore);
        Check.due("39: members", Make.set(0, 1), () -> planner.thesis(0, 5));
        Check.fails("39: all changes are forgotten", NONE, planner::undo);
        Check.due("39: the reason stays", 1, planner::reason);
        Check.due("39: the error position stays", 2, planner::errorPosition);
        Check.due("39: the input stays", 2, () -> planner.append('1'));
        planner.join(0, 4);
        planner.pass(4);
        Check.due("39: it stays saved", 1, planner::restore);
        Check.due("39: members again", Make.set(0, 1), () -> planner.thesis(0, 5));
        Check.due("39: the day again", 0, () -> planner.account(7));
        planner.join(0, 2);
        Check.due("39: changes behind it are remembered", 0, planner::undo);
        Check.due("39: undone", Make.set(0, 1), () -> planner.thesis(0, 5));
    }
}
