/**
 * What can be asked of a planner, as one text. An object is used for at most 512 calls, so nothing is
 * asked here that follows from other answers.
 */
final class Sight {

    private Sight() {
    }

    /** The state, the reason and the error position. */
    static String of(CommitteePlanner planner) {
        return ofState(planner) + " reason " + Check.outcome(planner::reason)
                + " error " + Check.outcome(planner::errorPosition);
    }

    /** All that the history remembers. */
    static String ofState(CommitteePlanner planner) {
        StringBuilder text = new StringBuilder();
        addAccounts(text, planner);
        for (int i = 0; i < planner.account(0); i++) {
            int person = i;
            for (int what = 0; what < 8; what++) {
                add(text, "person" + person + "." + what, planner.person(person, what));
            }
            text.append(" free ").append(Check.outcome(() -> planner.freeDay(person)));
        }
        for (int thesis = 0; thesis < planner.account(1); thesis++) {
            for (int what = 0; what < 11; what++) {
                add(text, "thesis" + thesis + "." + what, planner.thesis(thesis, what));
            }
        }
        for (int place = 0; place < planner.account(6); place++) {
            add(text, "waiting" + place, planner.waiting(place));
        }
        return text.toString();
    }

    /** What is behind the state: the history, the input and what was saved. The planner is used up by it. */
    static String behind(CommitteePlanner planner) {
        StringBuilder text = new StringBuilder();
        for (int i = 0; i < 7; i++) {
            text.append(" undo ").append(Check.outcome(planner::undo));
        }
        addShort(text, planner);
        text.append(" input ").append(Check.outcome(() -> planner.append('d')));
        text.append(" restore ").append(Check.outcome(planner::restore));
        addShort(text, planner);
        return text.toString();
    }

    private static void addShort(StringBuilder text, CommitteePlanner planner) {
        addAccounts(text, planner);
        for (int thesis = 0; thesis < planner.account(1); thesis++) {
            add(text, "members" + thesis, planner.thesis(thesis, 5));
            add(text, "day" + thesis, planner.thesis(thesis, 7));
        }
    }

    private static void addAccounts(StringBuilder text, CommitteePlanner planner) {
        for (int account = 0; account < 10; account++) {
            add(text, "account" + account, planner.account(account));
        }
    }

    private static void add(StringBuilder text, String name, int number) {
        text.append(' ').append(name).append('=').append(number);
    }
}
