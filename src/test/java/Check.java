import java.util.Objects;

/** Compares answers with those that are due, and ends a test with exit code 1 if one differs. */
final class Check {

    /** A call whose answer, or exception, is looked at. */
    interface Call {
        Object answer();
    }

    /** A planner that a check begins with; each time it is a new one. */
    interface Maker {
        CommitteePlanner make();
    }

    /** A call on a planner that a check has made. */
    interface Use {
        Object on(CommitteePlanner planner);
    }

    private static int checks = 0;
    private static int wrong = 0;

    private Check() {
    }

    /** The call answers what is due. */
    static void due(String what, Object due, Call call) {
        note(what, String.valueOf(due), outcome(call));
    }

    /** The call throws just this exception. */
    static void fails(String what, Class<? extends RuntimeException> due, Call call) {
        note(what, due.getName(), outcome(call));
    }

    /** The call, on a planner of its own, throws just this exception and leaves all as it was. */
    static void refuses(String what, Class<? extends RuntimeException> due, Maker maker, Use use) {
        leavesAll(what, due.getName(), maker, use);
    }

    /** The call, on a planner of its own, answers what is due and leaves all as it was. */
    static void asks(String what, Object due, Maker maker, Use use) {
        leavesAll(what, String.valueOf(due), maker, use);
    }

    /** The call, on a planner of its own, is refused for a reason and leaves all else as it was. */
    static void refusesFor(String what, int reason, Maker maker, Use use) {
        CommitteePlanner with = maker.make();
        note(what, UnsupportedOperationException.class.getName(), outcome(() -> use.on(with)));
        note(what + ", reason", String.valueOf(reason), outcome(with::reason));
        note(what + " leaves the state", Sight.ofState(maker.make()), Sight.ofState(with));
        note(what + " leaves the rest", Sight.behind(maker.make()), Sight.behind(with));
    }

    static void same(String what, Object due, Object got) {
        note(what, String.valueOf(due), String.valueOf(got));
    }

    /** What a call answers, or the name of what it throws. */
    static String outcome(Call call) {
        try {
            return String.valueOf(call.answer());
        } catch (RuntimeException e) {
            return e.getClass().getName();
        }
    }

    static void end(String test) {
        System.out.println(test + ": " + checks + " checks, " + wrong + " wrong");
        if (wrong != 0) {
            System.exit(1);
        }
    }

    /** Looks at two planners, only one of which had the call: a change that is none would not show on one. */
    private static void leavesAll(String what, String due, Maker maker, Use use) {
        CommitteePlanner with = maker.make();
        note(what, due, outcome(() -> use.on(with)));
        CommitteePlanner without = maker.make();
        note(what + " leaves the state", Sight.of(without), Sight.of(with));
        note(what + " leaves the rest", Sight.behind(without), Sight.behind(with));
    }

    private static void note(String what, String due, String got) {
        checks++;
        if (!Objects.equals(due, got)) {
            wrong++;
            if (wrong <= 50) {
                System.out.println(what + ": answered " + got + ", due is " + due);
            }
        }
    }
}
