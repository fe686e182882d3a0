import java.util.NoSuchElementException;

/** Promises 34 to 36: append, read and errorPosition. */
public final class TextsTest {

    private static final Class<IllegalArgumentException> ARGUMENT = IllegalArgumentException.class;
    private static final Class<IllegalStateException> STATE = IllegalStateException.class;
    private static final Class<NoSuchElementException> NONE = NoSuchElementException.class;

    public static void main(String[] args) {
        promise34();
        promise35();
        entriesThatCannotBeDone();
        allOrNothing();
        promise36();
        everyFirstWrongSign();
        Check.end("TextsTest");
    }

    private static void promise34() {
        CommitteePlanner planner = new CommitteePlanner();
        Check.fails("34: code 31", ARGUMENT, () -> planner.append((char) 31));
        Check.fails("34: code 127", ARGUMENT, () -> planner.append((char) 127));
        Check.fails("34: code 0", ARGUMENT, () -> planner.append((char) 0));
        Check.fails("34: code 65535", ARGUMENT, () -> planner.append((char) 65535));
        Check.due("34: code 32", 1, () -> planner.append((char) 32));
        Check.due("34: code 126", 2, () -> planner.append((char) 126));
        for (int i = 3; i <= 60; i++) {
            Check.due("34: append", i, () -> planner.append('a'));
        }
        Check.fails("34: 60 characters", STATE, () -> planner.append('a'));
        Check.fails("34: the code comes first", ARGUMENT, () -> planner.append((char) 31));
        Check.fails("34: append is no change", NONE, planner::undo);
        Check.fails("35: a wrong text", ARGUMENT, planner::read);
        Check.due("34: empty afterwards", 1, () -> planner.append('a'));
    }

    private static void promise35() {
        CommitteePlanner planner = Make.professors(6);
        planner.addThesis(0, 0, 0, 5);
        Check.due("35: join", 3, () -> Make.read(planner, "j0,0;j0,01;j0,002;"));
        Check.due("35: members", 7, () -> planner.thesis(0, 5));
        Check.due("35: it is one change", 5, planner::undo);
        Check.due("35: undone", 0, () -> planner.thesis(0, 5));
        Check.due("35: join and leave", 5, () -> Make.read(planner, "j0,0;j0,1;j0,2;j0,3;l0,3;"));
        Check.due("35: place", 1, () -> Make.read(planner, "p0@2,030,6;"));
        Check.due("35: room", 2, () -> planner.thesis(0, 6));
        Check.due("35: day", 30, () -> planner.thesis(0, 7));
        Check.due("35: hour", 6, () -> planner.thesis(0, 8));
        Check.due("35: stages and days", 5, () -> Make.read(planner, "n0;n0;n0;d030;n0;"));
        Check.due("35: stage", 4, () -> planner.thesis(0, 4));
        Check.due("35: the present day", 30, () -> planner.account(7));
        planner.undo();
        Check.due("35: undone", 0, () -> planner.thesis(0, 4));
        Check.due("35: days of one digit", 1, () -> Make.read(planner, "d9;"));
        Check.due("35: days of two digits", 1, () -> Make.read(planner, "d99;"));
        Check.due("35: the place is lost by days", 1, () -> planner.account(8));
        Check.due("35: the input is empty", 1, () -> planner.append('d'));
        Make.type(planner, "1;" + "d1;".repeat(19));
        Check.due("35: a full input", 20, planner::read);
        Check.due("35: 20 days", 128, () -> planner.account(7));
        CommitteePlanner left = Make.defence();
        Check.due("35: leave", 1, () -> Make.read(left, "l0,2;"));
        Check.due("35: the place is lost by leaving", -1, () -> left.thesis(0, 7));
        Check.due("35: a place again", 2, () -> Make.read(left, "j0,3;p0@0,400,0;"));
        Check.due("35: the last day", 400, () -> left.thesis(0, 7));
        CommitteePlanner many = Make.professors(14);
        many.addThesis(0, 0, 0, 5);
        Check.due("35: persons of two digits", 2, () -> Make.read(many, "j0,13;j0,010;"));
        Check.due("35: members", Make.set(10, 13), () -> many.thesis(0, 5));
    }

    private static void cannot(String text, CommitteePlanner planner) {
        Make.type(planner, text);
        Check.fails("35: " + text, STATE, planner::read);
        Check.due("35: the input is empty", 1, () -> planner.append('d'));
        Make.type(planner, "x");
        Check.fails("35: a wrong text", ARGUMENT, planner::read);
    }

    private static void entriesThatCannotBeDone() {
        CommitteePlanner planner = Make.committee();
        Check.fails("35: a wrong text", ARGUMENT, () -> Make.read(planner, "dx"));
        String[] texts = {"j1,0;", "j9,0;", "j0,6;", "j0,999;", "l1,0;", "l0,6;", "l0,4;", "l0,999;", "p1@0,30,0;",
            "p0@3,30,0;", "p0@9,30,0;", "p0@0,401,0;", "p0@0,999,0;", "p0@0,30,7;", "p0@0,30,9;", "n0;", "n1;",
            "d0;", "d000;", "d100;", "d999;", "j0,3;n0;", "d99;d99;d99;d99;d5;"};
        for (String text : texts) {
            cannot(text, planner);
        }
        Check.fails("35: no refusal, no reason", NONE, planner::reason);
        refused("j0,0;", planner, 1);
        refused("p0@0,20,0;", planner, 12);
        refused("l0,0;p0@0,30,0;", planner, 9);
        refused("j0,3;j0,4;j0,5;j0,0;", planner, 6);
        Check.fails("35: not a member", STATE, () -> Make.read(planner, "l0,5;"));
        Check.due("35: the reason stays", 6, planner::reason);
        CommitteePlanner done = Make.defended();
        refused("p0@0,60,0;", done, 8);
        refused("j0,3;", done, 8);
        cannot("l0,0;", done);
        cannot("n0;", done);
    }

    private static void refused(String text, CommitteePlanner planner, int reason) {
        Make.type(planner, text);
        String members = String.valueOf(planner.thesis(0, 5));
        Check.fails("35: refused " + text, STATE, planner::read);
        Check.due("35: the reason of " + text, reason, planner::reason);
        Check.due("35: nothing is done", members, () -> planner.thesis(0, 5));
    }

    private static void allOrNothing() {
        CommitteePlanner planner = Make.defence();
        planner.setBusy(4, 9, 0, true);
        planner.await(planner.addThesis(0, 0, 0, 1));
        planner.save();
        String before = Sight.of(planner);
        Check.fails("35: the last entry", STATE, () -> Make.read(planner, "l0,0;j0,3;d12;j1,3;n1;"));
        Check.same("35: nothing of it is done", before, Sight.of(planner));
        Check.due("35: not a change", 5, planner::undo);
        Check.due("35: undo is that of await", 0, () -> planner.account(6));
        Check.fails("35: a wrong end", ARGUMENT, () -> Make.read(planner, "l0,0;j0,3;d12;n"));
        Check.due("35: nothing of a wrong text is done", 7, () -> planner.thesis(0, 5));
        Check.due("35: not a change", 4, planner::undo);
        CommitteePlanner six = Make.committee();
        for (int i = 0; i < 6; i++) {
            six.pass(1);
        }
        Check.fails("35: fails when six changes are remembered", STATE, () -> Make.read(six, "d1;d0;"));
        for (int left = 5; left >= 0; left--) {
            int day = left;
            Check.due("35: undo", left, six::undo);
            Check.due("35: the day", day, () -> six.account(7));
        }
        Check.fails("35: no more", NONE, six::undo);
        CommitteePlanner lost = Make.defence();
        Check.fails("35: places lost by days come back", STATE, () -> Make.read(lost, "d10;n0;"));
        Check.due("35: the place", 30, () -> lost.thesis(0, 7));
        Check.due("35: the account", 0, () -> lost.account(8));
    }

    private static void wrongAt(String text, int position) {
        CommitteePlanner planner = Make.committee();
        Make.type(planner, text);
        Check.fails("35: " + text, ARGUMENT, planner::read);
        Check.due("36: of " + text, position, planner::errorPosition);
    }

    private static void promise36() {
        CommitteePlanner planner = Make.committee();
        Check.fails("36: none was kept", NONE, planner::errorPosition);
        Check.fails("35: an empty text", ARGUMENT, planner::read);
        Check.due("36: of an empty text", 0, planner::errorPosition);
        Check.fails("35: a wrong text", ARGUMENT, () -> Make.read(planner, "d12"));
        Check.due("36: the length", 3, planner::errorPosition);
        Make.read(planner, "d1;");
        Check.due("36: stays behind a text", 3, planner::errorPosition);
        Check.fails("35: cannot be done", STATE, () -> Make.read(planner, "d0;"));
        Check.due("36: stays then too", 3, planner::errorPosition);
        planner.undo();
        planner.clear();
        Check.due("36: stays behind clear", 3, planner::errorPosition);
        wrongAt("x", 0);
        wrongAt(";", 0);
        wrongAt("J0,1;", 0);
        wrongAt(" j0,1;", 0);
        wrongAt("d1; d1;", 3);
        wrongAt("d1;;", 3);
        wrongAt("d1;5", 3);
        wrongAt("d1;d", 4);
        wrongAt("d1;d1;n", 7);
        wrongAt("d".repeat(60), 1);
        wrongAt("d1;".repeat(19) + "d12", 60);
        wrongAt("d1;".repeat(19) + "d1 ", 59);
        wrongAt("d1;".repeat(19) + "j0,", 60);
        wrongAt("j0,0999;", 6);
        wrongAt("j0,;", 3);
        wrongAt("j0.1;", 2);
        wrongAt("j-1,1;", 1);
        wrongAt("j0,-1;", 3);
        wrongAt("p0,0@1,0;", 2);
        wrongAt("p0@0@1,0;", 4);
        wrongAt("p0@00,1,0;", 4);
        wrongAt("p0@0,1,00;", 8);
        wrongAt("p0@0,1;", 6);
        wrongAt("p0@0,1,0,", 8);
        wrongAt("n00;", 2);
        wrongAt("n0,0;", 2);
        wrongAt("d0099;", 4);
        wrongAt("j9;", 2);
        wrongAt("j0,9@", 4);
        wrongAt("l0,1,", 4);
    }

    /** Puts each sign at each place of right texts, and compares with the forms of the entries. */
    private static void everyFirstWrongSign() {
        String[] forms = {"j0,1;", "l0,12;", "j0,123;", "p0@1,2,3;", "p0@1,234,5;", "n0;", "d1;", "d12;", "d123;"};
        CommitteePlanner planner = new CommitteePlanner();
        int calls = 0;
        for (String form : forms) {
            for (int place = 0; place <= form.length(); place++) {
                for (char sign = 32; sign < 127; sign++) {
                    String start = form.substring(0, place) + sign;
                    calls += start.length() + 2;
                    if (calls > 500) {
                        planner = new CommitteePlanner();
                        calls = start.length() + 2;
                    }
                    CommitteePlanner reader = planner;
                    Make.type(reader, start);
                    int due = canStart(start) ? start.length() : place;
                    Check.outcome(reader::read);
                    if (!isText(start)) {
                        Check.due("36: of " + start, due, reader::errorPosition);
                    }
                }
            }
        }
    }

    private static boolean isText(String text) {
        return text.matches("([jl]\\d,\\d{1,3};|p\\d@\\d,\\d{1,3},\\d;|n\\d;|d\\d{1,3};)+");
    }

    private static boolean canStart(String start) {
        String[] ends = {"", "1;", "0,1;", "0@1,1,1;", ",1;", "@1,1,1;", "1,1,1;", "1,1;", ",1,1;", ";"};
        for (String end : ends) {
            if (isText(start + end)) {
                return true;
            }
        }
        return false;
    }
}
