import java.util.Objects;

/** Compares answers with those that are due, and ends a test with exit code 1 if one differs. */
final class Check {

    /** A call whose answer, or exception, is looked at. */
    interface Call {
        Object answer();
    }

    private static int checks = 0;
    private static int wrong = 0;

    private Check() {
    }

    /** The call answers what is due. */
    static void due(String what, Object due, Call call) {
        note(what, String.valueOf(due), outcome(call));
    }

    /** The call throws just this exception. */
    static void fails(String what, Class<? extends RuntimeException> due, Call call) {
        note(what, due.getName(), outcome(call));
    }

    /** The call throws just this exception and leaves all that can be asked as it was. */
    static void failsUnchanged(String what, Class<? extends RuntimeException> due,
            CommitteePlanner planner, Call call) {
        String before = Sight.of(planner);
        fails(what, due, call);
        note(what + " leaves the state", before, Sight.of(planner));
    }

    /** The call answers what is due and leaves all that can be asked as it was. */
    static void dueUnchanged(String what, Object due, CommitteePlanner planner, Call call) {
        String before = Sight.of(planner);
        due(what, due, call);
        note(what + " leaves the state", before, Sight.of(planner));
    }

    static void same(String what, Object due, Object got) {
        note(what, String.valueOf(due), String.valueOf(got));
    }

    /** What a call answers, or the name of what it throws. */
    static String outcome(Call call) {
        try {
            return String.valueOf(call.answer());
        } catch (RuntimeException e) {
            return e.getClass().getName();
        }
    }

    static int wrongSoFar() {
        return wrong;
    }

    static void end(String test) {
        System.out.println(test + ": " + checks + " checks, " + wrong + " wrong");
        if (wrong != 0) {
            System.exit(1);
        }
    }

    private static void note(String what, String due, String got) {
        checks++;
        if (!Objects.equals(due, got)) {
            wrong++;
            if (wrong <= 50) {
                System.out.println(what + ": answered " + got + ", due is " + due);
            }
        }
    }
}
