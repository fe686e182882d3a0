/**
 * Every set of reasons that can come together, for join, replace and place: the first one that applies is
 * told, kept, and the same for a question, a call and a text.
 */
public final class ReasonsTest {

    private static final Class<IllegalStateException> STATE = IllegalStateException.class;

    private static final int CANDIDATE = 7;
    private static final int SUPERVISOR = 8;
    private static final int LEAVER = 2;
    private static final int TODAY = 60;

    public static void main(String[] args) {
        for (int reasons = 0; reasons < 1 << 9; reasons += 2) {
            if (canComeTogether(reasons)) {
                joining(reasons);
                replacing(reasons);
                replacingBySame(reasons);
            }
        }
        for (int reasons = 0; reasons < 1 << 13; reasons += 1 << 8) {
            if (!has(reasons, 8) || !has(reasons, 9)) {
                placing(reasons);
            }
        }
        limitAheadOfDefended();
        Check.end("ReasonsTest");
    }

    /** In a defended thesis even a member who is replaced by itself can be in too many other committees. */
    private static void limitAheadOfDefended() {
        Check.Maker maker = () -> {
            CommitteePlanner planner = Make.professors(3);
            planner.addPerson(0, 1, 0, 1);
            planner.addThesis(0, 0, 0, 0);
            planner.addThesis(0, 0, 0, 0);
            Make.join(planner, 0, 1, 2, 3);
            planner.place(0, 0, 21, 0);
            Make.goOn(planner, 0, 3);
            planner.pass(21);
            planner.goOn(0);
            return planner;
        };
        Check.refusesFor("13: below the limit, defended", 8, maker, p -> p.replace(0, 3, 3));
        Check.refusesFor("13: at the limit, defended", 5, () -> {
            CommitteePlanner planner = maker.make();
            planner.join(1, 3);
            return planner;
        }, p -> p.replace(0, 3, 3));
    }

    private static boolean has(int reasons, int reason) {
        return (reasons >> reason & 1) != 0;
    }

    /** The supervisor cannot come into a committee whose kind is not 0, nor be in conflict with itself. */
    private static boolean canComeTogether(int reasons) {
        return !has(reasons, 2) || !has(reasons, 1) && !has(reasons, 3);
    }

    /** The least reason of a set, or 0. */
    private static int first(int reasons) {
        return reasons == 0 ? 0 : Integer.numberOfTrailingZeros(reasons);
    }

    /**
     * Thesis 0 with a quorum and the member LEAVER, such that just these reasons speak against the
     * CANDIDATE; and the candidate is the supervisor for reason 2.
     */
    private static CommitteePlanner committee(int reasons) {
        CommitteePlanner planner = new CommitteePlanner();
        for (int i = 0; i < 12; i++) {
            boolean isLimited = i == CANDIDATE && !has(reasons, 1);
            planner.addPerson(i == 3 ? 2 : 0, 1, 1, isLimited ? 1 : 2);
        }
        planner.addThesis(has(reasons, 2) ? 1 : 0, 0, 0, has(reasons, 2) ? CANDIDATE : SUPERVISOR);
        planner.addThesis(0, 0, 0, SUPERVISOR);
        if (has(reasons, 1)) {
            planner.join(0, CANDIDATE);
        }
        Make.join(planner, 0, 0, 1, LEAVER, 3);
        for (int i = 9; has(reasons, 6) && Integer.bitCount(planner.thesis(0, 5)) < planner.thesis(0, 10); i++) {
            planner.join(0, i);
        }
        if (has(reasons, 5)) {
            planner.join(1, CANDIDATE);
        }
        if (has(reasons, 7) || has(reasons, 8)) {
            planner.place(0, 0, TODAY, 2);
        }
        if (has(reasons, 8)) {
            Make.goOn(planner, 0, 3);
            planner.pass(TODAY);
            planner.goOn(0);
        }
        if (has(reasons, 7)) {
            planner.setBusy(CANDIDATE, TODAY, 3, true);
        }
        planner.setConflict(CANDIDATE, SUPERVISOR, has(reasons, 3));
        planner.setConflict(0, CANDIDATE, has(reasons, 4));
        return planner;
    }

    private static void joining(int reasons) {
        int due = first(reasons);
        String name = " for the reasons " + Integer.toBinaryString(reasons >> 1);
        Check.Maker maker = () -> committee(reasons);
        Check.asks("14: whyNotJoin" + name, due, maker, p -> p.whyNotJoin(0, CANDIDATE));
        if (due == 0) {
            Check.due("11: join" + name, 5, () -> maker.make().join(0, CANDIDATE));
            Check.due("35: join" + name, 1, () -> Make.read(maker.make(), "j0,7;"));
        } else {
            Check.refusesFor("11: join" + name, due, maker, p -> p.join(0, CANDIDATE));
            textIsRefused(name, due, maker.make(), "j0,7;");
        }
    }

    /** In a full committee there is room for another one when a member has left. */
    private static void replacing(int reasons) {
        int due = first(reasons & ~(1 << 6));
        String name = " for the reasons " + Integer.toBinaryString(reasons >> 1);
        Check.Maker maker = () -> {
            CommitteePlanner planner = committee(reasons);
            // a conflict with the one who leaves does not matter
            planner.setConflict(LEAVER, CANDIDATE, true);
            return planner;
        };
        boolean isReplacement = due == 0;
        Check.asks("16: replacements" + name, isReplacement, maker,
                p -> (p.replacements(0, LEAVER) >> CANDIDATE & 1) != 0);
        if (isReplacement) {
            Check.due("13: replace" + name, 1, () -> maker.make().replace(0, LEAVER, CANDIDATE));
        } else {
            Check.refusesFor("13: replace" + name, due, maker, p -> p.replace(0, LEAVER, CANDIDATE));
        }
    }

    /** A member who is replaced by itself: this committee counts neither for the limit nor as a full one. */
    private static void replacingBySame(int reasons) {
        if (!has(reasons, 1)) {
            return;
        }
        int due = first(reasons & ~(1 << 1 | 1 << 5 | 1 << 6));
        String name = " by the same for the reasons " + Integer.toBinaryString(reasons >> 1);
        Check.Maker maker = () -> committee(reasons);
        if (due == 0) {
            Check.due("13: replace" + name, 1, () -> maker.make().replace(0, CANDIDATE, CANDIDATE));
        } else {
            Check.refusesFor("13: replace" + name, due, maker, p -> p.replace(0, CANDIDATE, CANDIDATE));
        }
    }

    private static void textIsRefused(String name, int due, CommitteePlanner planner, String text) {
        Check.fails("35: " + text + name, STATE, () -> Make.read(planner, text));
        Check.due("35: reason of " + text + name, due, planner::reason);
    }

    /** Thesis 0 such that just these reasons speak against room 1 on the day of place at hour 3. */
    private static CommitteePlanner defence(int reasons) {
        CommitteePlanner planner = Make.professors(8);
        planner.addThesis(0, 0, 0, 7);
        planner.addThesis(0, 0, 0, 7);
        Make.join(planner, 0, 0, 1, 2);
        Make.join(planner, 1, 3, 4, 5);
        int day = dayOfPlace(reasons);
        if (has(reasons, 10)) {
            planner.place(1, 1, 90, 4);
            Make.goOn(planner, 1, 3);
            planner.place(1, 1, day, 4);
        }
        if (has(reasons, 8)) {
            planner.place(0, 0, 21, 0);
            Make.goOn(planner, 0, 3);
            if (day < 21 && has(reasons, 10)) {
                // only a defended one keeps its room when its day is over
                planner.pass(day);
                planner.goOn(1);
            }
            planner.pass(21 - planner.account(7));
            planner.goOn(0);
        }
        if (has(reasons, 9)) {
            planner.leave(0, 2);
        }
        planner.setBusy(0, day, 3, has(reasons, 11));
        return planner;
    }

    private static int dayOfPlace(int reasons) {
        return has(reasons, 12) ? 10 : 70;
    }

    private static void placing(int reasons) {
        int due = first(reasons);
        int day = dayOfPlace(reasons);
        String name = " for the reasons " + Integer.toBinaryString(reasons >> 8);
        Check.Maker maker = () -> defence(reasons);
        Check.asks("22: whyNotPlace" + name, due, maker, p -> p.whyNotPlace(0, 1, day, 3));
        String text = "p0@1," + day + ",3;";
        if (due == 0) {
            Check.due("20: place" + name, 49, () -> maker.make().place(0, 1, day, 3));
            Check.due("35: place" + name, 1, () -> Make.read(maker.make(), text));
        } else {
            Check.refusesFor("20: place" + name, due, maker, p -> p.place(0, 1, day, 3));
            textIsRefused(name, due, maker.make(), text);
        }
    }
}
