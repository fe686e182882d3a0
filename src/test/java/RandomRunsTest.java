import java.util.ArrayList;
import java.util.List;
import java.util.Random;

/** Random runs of calls on the class and on the reference; each answer must be the same. */
public final class RandomRunsTest {

    private static final int RUNS = 3000;
    private static final int CALLS = 512;
    private static final int[] WILD = {Integer.MIN_VALUE, -1000000, -2, -1, 6, 7, 8, 14, 31, 32, 63, 64, 99, 100,
        400, 401, 1 << 20, Integer.MAX_VALUE};
    private static final String[] CHANGES = {"setConflict", "setBusy", "setBusy", "setBusy", "join", "join", "join",
        "join", "leave", "replace", "replace", "complete", "complete", "place", "place", "place", "place",
        "takeBack", "goOn", "goOn", "goOn", "await", "await", "serve", "pass", "pass", "text", "text", "text"};
    private static final String[] LIVELY_CHANGES = {"setConflict", "setBusy", "setBusy", "join", "join", "leave",
        "replace", "replace", "complete", "complete", "complete", "place", "place", "place", "place", "place",
        "takeBack", "goOn", "goOn", "goOn", "goOn", "goOn", "await", "await", "serve", "pass", "text", "text"};
    private static final String[] QUESTIONS = {"person", "isFree", "freeDay", "thesis", "whyNotJoin", "whyNotJoin",
        "lacks", "replacements", "completion", "reason", "whyNotPlace", "whyNotPlace", "earliest", "earliest",
        "deadline", "mostUrgent", "inRoom", "waiting", "account", "meanLoad", "errorPosition"};

    private final Random random;
    private final CommitteePlanner planner = new CommitteePlanner();
    private final Reference reference = new Reference();
    private final List<String> calls = new ArrayList<>();
    private final int wildness;
    private final int focus;
    private final boolean isLively;
    private final int persons;
    private final int theses;
    private boolean differs;

    private RandomRunsTest(int seed) {
        random = new Random(seed);
        wildness = random.nextInt(4) == 0 ? 10 : 2;
        focus = 20 + random.nextInt(30);
        isLively = seed % 3 != 0;
        persons = 3 + random.nextInt(12);
        theses = 1 + random.nextInt(8);
    }

    public static void main(String[] args) {
        int wrong = 0;
        for (int seed = 0; seed < RUNS && wrong < 3; seed++) {
            wrong += new RandomRunsTest(seed).run(seed) ? 0 : 1;
        }
        System.out.println("RandomRunsTest: " + RUNS + " runs, " + wrong + " wrong");
        if (wrong != 0) {
            System.exit(1);
        }
    }

    private boolean run(int seed) {
        setUp();
        while (calls.size() < CALLS && !differs) {
            int kind = random.nextInt(100);
            if (kind < 2) {
                one(random.nextInt(2) == 0 ? "addPerson" : "addThesis");
            } else if (kind < 3) {
                one(random.nextInt(4) == 0 ? "clear" : "save");
                if (reference.account(0) == 0) {
                    setUp();
                }
            } else if (kind < 4) {
                one("restore");
            } else if (kind < 8) {
                one("undo");
            } else if (kind < 45) {
                one(isLively ? LIVELY_CHANGES[random.nextInt(LIVELY_CHANGES.length)]
                        : CHANGES[random.nextInt(CHANGES.length)]);
            } else if (kind < 46) {
                append((char) random.nextInt(200));
            } else {
                one(QUESTIONS[random.nextInt(QUESTIONS.length)]);
            }
        }
        if (differs) {
            System.out.println("seed " + seed + ": " + String.join("; ", calls));
        }
        return !differs;
    }

    /** Makes persons and theses; in lively runs such that most committees can be completed and placed. */
    private void setUp() {
        if (isLively) {
            setUpLively();
            return;
        }
        int ranks = random.nextInt(3) + 1;
        for (int i = 0; i < persons; i++) {
            call("addPerson", random.nextInt(ranks), random.nextInt(4) == 0 ? random.nextInt(64) : 63,
                    random.nextInt(4), 1 + random.nextInt(6));
        }
        for (int i = 0; i < theses; i++) {
            call("addThesis", random.nextInt(3), random.nextInt(6), random.nextInt(4), random.nextInt(persons));
        }
    }

    private void setUpLively() {
        for (int i = 0; i < persons; i++) {
            call("addPerson", random.nextInt(5) == 0 ? random.nextInt(3) : 0,
                    random.nextInt(5) == 0 ? random.nextInt(64) : 63, random.nextInt(4), 3 + random.nextInt(4));
        }
        for (int i = 0; i < theses; i++) {
            call("addThesis", random.nextInt(4) == 0 ? random.nextInt(3) : 0, random.nextInt(6),
                    random.nextInt(4), random.nextInt(persons));
            call("complete", i);
        }
    }

    private void one(String name) {
        switch (name) {
            case "addPerson":
                call(name, near(0, 2), near(0, 63), near(0, 3), near(1, 6));
                break;
            case "addThesis":
                call(name, near(0, 2), near(0, 5), near(0, 3), somePerson());
                break;
            case "setConflict":
                call(name, somePerson(), somePerson(), random.nextInt(2));
                break;
            case "setBusy":
                call(name, somePerson(), someDay(), near(0, 7), random.nextInt(3) == 0 ? 0 : 1);
                break;
            case "person":
                call(name, somePerson(), near(0, 7));
                break;
            case "isFree":
                call(name, somePerson(), someDay(), near(0, 6));
                break;
            case "freeDay":
                call(name, somePerson());
                break;
            case "thesis":
                call(name, someThesis(), near(0, 10));
                break;
            case "join":
            case "leave":
            case "whyNotJoin":
            case "replacements":
                call(name, someThesis(), somePerson());
                break;
            case "replace":
                call(name, someThesis(), somePerson(), somePerson());
                break;
            case "lacks":
                call(name, someThesis(), near(0, 4));
                break;
            case "completion":
            case "complete":
            case "takeBack":
            case "earliest":
            case "goOn":
            case "await":
                call(name, someThesis());
                break;
            case "place":
            case "whyNotPlace":
                call(name, someThesis(), near(0, 2), someDay(), near(0, 6));
                break;
            case "deadline":
                call(name, someThesis(), near(1, 4));
                break;
            case "inRoom":
                call(name, near(0, 2), someDay(), near(0, 7));
                break;
            case "waiting":
                call(name, near(0, 4));
                break;
            case "pass":
                call(name, someDays());
                break;
            case "account":
                call(name, near(0, 9));
                break;
            case "text":
                text();
                break;
            default:
                call(name);
        }
    }

    private void text() {
        StringBuilder text = new StringBuilder();
        int entries = random.nextInt(8) == 0 ? random.nextInt(8) : 1 + random.nextInt(2);
        for (int i = 0; i < entries; i++) {
            text.append(entry());
        }
        if (random.nextInt(4) == 0 && text.length() > 0) {
            int index = random.nextInt(text.length());
            String signs = "0123456789;,@jlpnd :/A#?";
            char sign = signs.charAt(random.nextInt(signs.length()));
            int way = random.nextInt(3);
            if (way == 0) {
                text.setCharAt(index, sign);
            } else if (way == 1) {
                text.insert(index, sign);
            } else {
                text.setLength(index);
            }
        }
        for (int i = 0; i < text.length() && !differs && calls.size() < CALLS; i++) {
            append(text.charAt(i));
        }
        call("read");
    }

    private String entry() {
        int thesis = random.nextInt(20) == 0 ? random.nextInt(10) : random.nextInt(theses);
        int day = Math.floorMod(someDay(), 1000);
        if (isLively && random.nextInt(4) == 0) {
            return "n" + thesis + ";";
        }
        switch (random.nextInt(6)) {
            case 0: return "d" + padded(random.nextInt(30) == 0 ? random.nextInt(1000) : random.nextInt(3)) + ";";
            case 1: return "n" + thesis + ";";
            case 2: return "p" + thesis + "@" + random.nextInt(4) + "," + padded(day) + "," + random.nextInt(8) + ";";
            case 3: return "l" + thesis + "," + padded(random.nextInt(persons)) + ";";
            default: return "j" + thesis + "," + padded(random.nextInt(persons + 1)) + ";";
        }
    }

    private String padded(int number) {
        String digits = String.valueOf(number);
        int zeros = random.nextInt(4) == 0 ? random.nextInt(Math.max(1, 4 - digits.length())) : 0;
        return "0".repeat(zeros) + digits;
    }

    private int near(int least, int greatest) {
        if (random.nextInt(100) < wildness) {
            switch (random.nextInt(3)) {
                case 0: return least - 1;
                case 1: return greatest + 1;
                default: return WILD[random.nextInt(WILD.length)];
            }
        }
        return least + random.nextInt(greatest - least + 1);
    }

    private int somePerson() {
        return near(0, persons - 1);
    }

    private int someThesis() {
        return near(0, theses - 1);
    }

    private int someDay() {
        int today = reference.account(7);
        if (isLively && random.nextInt(8) != 0) {
            // few days, so that defences and busy hours meet
            int group = (today / 50 + 1) * 50;
            return random.nextInt(4) == 0 ? today : group + random.nextInt(2);
        }
        switch (random.nextInt(10)) {
            case 0: return near(0, 400);
            case 1: return near(today, 400);
            case 2: return near(395, 400);
            case 3: return near(today, today);
            case 4: return near(today + 5, today + 6);
            default: return near(today + focus, today + focus + 2);
        }
    }

    private int someDays() {
        if (isLively && random.nextInt(2) == 0) {
            String days = Check.outcome(reference::mostUrgent);
            return days.length() > 2 || days.equals("0") ? 1 : Integer.parseInt(days);
        }
        int way = random.nextInt(12);
        return way == 0 ? near(1, 99) : way < 3 ? near(1, 25) : near(1, 4);
    }

    private void append(char sign) {
        compare("append((char) " + (int) sign + ")", () -> planner.append(sign), () -> reference.append(sign));
    }

    private void call(String name, int... a) {
        StringBuilder text = new StringBuilder(name);
        for (int argument : a) {
            text.append(' ').append(argument);
        }
        compare(text.toString(), () -> onPlanner(name, a), () -> onReference(name, a));
    }

    private void compare(String text, Check.Call call, Check.Call dueCall) {
        // what an object answers behind its 512th call is free
        if (differs || calls.size() >= CALLS) {
            return;
        }
        String got = Check.outcome(call);
        String due = Check.outcome(dueCall);
        calls.add(text + " -> " + got);
        if (!got.equals(due)) {
            calls.add("due is " + due);
            differs = true;
        }
    }

    private Object onPlanner(String name, int[] a) {
        switch (name) {
            case "clear": return planner.clear();
            case "addPerson": return planner.addPerson(a[0], a[1], a[2], a[3]);
            case "setConflict": return planner.setConflict(a[0], a[1], a[2] != 0);
            case "setBusy": return planner.setBusy(a[0], a[1], a[2], a[3] != 0);
            case "person": return planner.person(a[0], a[1]);
            case "isFree": return planner.isFree(a[0], a[1], a[2]);
            case "freeDay": return planner.freeDay(a[0]);
            case "addThesis": return planner.addThesis(a[0], a[1], a[2], a[3]);
            case "thesis": return planner.thesis(a[0], a[1]);
            case "join": return planner.join(a[0], a[1]);
            case "leave": return planner.leave(a[0], a[1]);
            case "replace": return planner.replace(a[0], a[1], a[2]);
            case "whyNotJoin": return planner.whyNotJoin(a[0], a[1]);
            case "lacks": return planner.lacks(a[0], a[1]);
            case "replacements": return planner.replacements(a[0], a[1]);
            case "completion": return planner.completion(a[0]);
            case "complete": return planner.complete(a[0]);
            case "reason": return planner.reason();
            case "place": return planner.place(a[0], a[1], a[2], a[3]);
            case "takeBack": return planner.takeBack(a[0]);
            case "whyNotPlace": return planner.whyNotPlace(a[0], a[1], a[2], a[3]);
            case "earliest": return planner.earliest(a[0]);
            case "deadline": return planner.deadline(a[0], a[1]);
            case "goOn": return planner.goOn(a[0]);
            case "mostUrgent": return planner.mostUrgent();
            case "inRoom": return planner.inRoom(a[0], a[1], a[2]);
            case "await": return planner.await(a[0]);
            case "serve": return planner.serve();
            case "waiting": return planner.waiting(a[0]);
            case "pass": return planner.pass(a[0]);
            case "account": return planner.account(a[0]);
            case "meanLoad": return planner.meanLoad();
            case "read": return planner.read();
            case "errorPosition": return planner.errorPosition();
            case "undo": return planner.undo();
            case "save": return planner.save();
            case "restore": return planner.restore();
            default: throw new AssertionError(name);
        }
    }

    private Object onReference(String name, int[] a) {
        switch (name) {
            case "clear": return reference.clear();
            case "addPerson": return reference.addPerson(a[0], a[1], a[2], a[3]);
            case "setConflict": return reference.setConflict(a[0], a[1], a[2] != 0);
            case "setBusy": return reference.setBusy(a[0], a[1], a[2], a[3] != 0);
            case "person": return reference.person(a[0], a[1]);
            case "isFree": return reference.isFree(a[0], a[1], a[2]);
            case "freeDay": return reference.freeDay(a[0]);
            case "addThesis": return reference.addThesis(a[0], a[1], a[2], a[3]);
            case "thesis": return reference.thesis(a[0], a[1]);
            case "join": return reference.join(a[0], a[1]);
            case "leave": return reference.leave(a[0], a[1]);
            case "replace": return reference.replace(a[0], a[1], a[2]);
            case "whyNotJoin": return reference.whyNotJoin(a[0], a[1]);
            case "lacks": return reference.lacks(a[0], a[1]);
            case "replacements": return reference.replacements(a[0], a[1]);
            case "completion": return reference.completion(a[0]);
            case "complete": return reference.complete(a[0]);
            case "reason": return reference.reason();
            case "place": return reference.place(a[0], a[1], a[2], a[3]);
            case "takeBack": return reference.takeBack(a[0]);
            case "whyNotPlace": return reference.whyNotPlace(a[0], a[1], a[2], a[3]);
            case "earliest": return reference.earliest(a[0]);
            case "deadline": return reference.deadline(a[0], a[1]);
            case "goOn": return reference.goOn(a[0]);
            case "mostUrgent": return reference.mostUrgent();
            case "inRoom": return reference.inRoom(a[0], a[1], a[2]);
            case "await": return reference.await(a[0]);
            case "serve": return reference.serve();
            case "waiting": return reference.waiting(a[0]);
            case "pass": return reference.pass(a[0]);
            case "account": return reference.account(a[0]);
            case "meanLoad": return reference.meanLoad();
            case "read": return reference.read();
            case "errorPosition": return reference.errorPosition();
            case "undo": return reference.undo();
            case "save": return reference.save();
            case "restore": return reference.restore();
            default: throw new AssertionError(name);
        }
    }
}
