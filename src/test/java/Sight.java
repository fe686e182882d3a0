/** All that can be asked of a planner without a change, as one text. */
final class Sight {

    private Sight() {
    }

    static String of(CommitteePlanner planner) {
        StringBuilder text = new StringBuilder();
        for (int account = 0; account < 10; account++) {
            add(text, "account" + account, planner.account(account));
        }
        for (int person = 0; person < planner.account(0); person++) {
            addPerson(text, planner, person);
        }
        for (int thesis = 0; thesis < planner.account(1); thesis++) {
            addThesis(text, planner, thesis);
        }
        for (int place = 0; place < planner.account(6); place++) {
            add(text, "waiting" + place, planner.waiting(place));
        }
        text.append(" load ").append(Check.outcome(planner::meanLoad));
        text.append(" urgent ").append(Check.outcome(planner::mostUrgent));
        text.append(" reason ").append(Check.outcome(planner::reason));
        text.append(" error ").append(Check.outcome(planner::errorPosition));
        return text.toString();
    }

    private static void addPerson(StringBuilder text, CommitteePlanner planner, int person) {
        for (int what = 0; what < 8; what++) {
            add(text, "person" + person + "." + what, planner.person(person, what));
        }
        text.append(" free ").append(Check.outcome(() -> planner.freeDay(person)));
    }

    private static void addThesis(StringBuilder text, CommitteePlanner planner, int thesis) {
        for (int what = 0; what < 11; what++) {
            add(text, "thesis" + thesis + "." + what, planner.thesis(thesis, what));
        }
        for (int what = 0; what < 5; what++) {
            add(text, "lacks" + thesis + "." + what, planner.lacks(thesis, what));
        }
        for (int stage = 1; stage <= 4; stage++) {
            int due = stage;
            text.append(" deadline ").append(Check.outcome(() -> planner.deadline(thesis, due)));
        }
    }

    private static void add(StringBuilder text, String name, int number) {
        text.append(' ').append(name).append('=').append(number);
    }
}
