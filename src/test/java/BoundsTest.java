import java.util.ArrayList;
import java.util.List;
import java.util.NoSuchElementException;

/**
 * The ranges of all numbers that calls take: the least and the greatest one are taken, those beyond them
 * are refused and leave everything, and of several exceptions the one that is documented first is thrown.
 */
public final class BoundsTest {

    private static final Class<IllegalArgumentException> ARGUMENT = IllegalArgumentException.class;
    private static final Class<IllegalStateException> STATE = IllegalStateException.class;
    private static final Class<IndexOutOfBoundsException> INDEX = IndexOutOfBoundsException.class;
    private static final Class<NoSuchElementException> NONE = NoSuchElementException.class;
    private static final Class<UnsupportedOperationException> REFUSED = UnsupportedOperationException.class;

    private interface Call {
        Object on(CommitteePlanner planner, int[] numbers);
    }

    private interface Step {
        void on(CommitteePlanner planner);
    }

    /** The range of one number of a call, and the exception beyond it. */
    private static final class Range {
        final Class<? extends RuntimeException> exception;
        final int least;
        final int greatest;

        Range(Class<? extends RuntimeException> exception, int least, int greatest) {
            this.exception = exception;
            this.least = least;
            this.greatest = greatest;
        }

        boolean has(int number) {
            return number >= least && number <= greatest;
        }

        List<Integer> numbersBeyond() {
            List<Integer> numbers = new ArrayList<>(List.of(least - 1, greatest + 1, Integer.MIN_VALUE,
                    Integer.MAX_VALUE, Integer.MIN_VALUE + least));
            // numbers that a shift or a narrower type would wrap around into the range
            for (int wrap : new int[] {32, 64, 256, 65536, 1 << 24}) {
                numbers.add(least + wrap);
                numbers.add(least - wrap);
            }
            numbers.removeIf(this::has);
            return numbers;
        }
    }

    /** A call of the face with the ranges of its numbers. */
    private static final class Row {
        final String name;
        final Check.Maker maker;
        final Call call;
        final int[] usual;
        final List<Range> ranges = new ArrayList<>();

        Row(String name, Check.Maker maker, Call call, int... usual) {
            this.name = name;
            this.maker = maker;
            this.call = call;
            this.usual = usual;
        }

        Row range(Class<? extends RuntimeException> exception, int least, int greatest) {
            ranges.add(new Range(exception, least, greatest));
            return this;
        }

        Row check() {
            for (int i = 0; i < usual.length; i++) {
                takes(i, ranges.get(i).least);
                takes(i, ranges.get(i).greatest);
                for (int number : ranges.get(i).numbersBeyond()) {
                    refuses(maker, i, number);
                    for (int j = 0; j < i; j++) {
                        refusesBoth(j, ranges.get(j).greatest + 1, i, number);
                    }
                }
            }
            return this;
        }

        /** With a step ahead of it the usual call throws an exception that is documented behind the ranges. */
        void behind(Class<? extends RuntimeException> exception, Step step) {
            Check.Maker later = () -> {
                CommitteePlanner planner = maker.make();
                step.on(planner);
                return planner;
            };
            CommitteePlanner planner = later.make();
            Check.fails(name + ", behind the ranges", exception, () -> call.on(planner, usual));
            for (int i = 0; i < usual.length; i++) {
                refuses(later, i, ranges.get(i).least - 1);
                refuses(later, i, ranges.get(i).greatest + 1);
            }
        }

        private void takes(int index, int number) {
            int[] numbers = usual.clone();
            numbers[index] = number;
            String exception = ranges.get(index).exception.getName();
            String outcome = Check.outcome(() -> call.on(maker.make(), numbers));
            Check.same(name + " takes " + number + " as number " + index, false, exception.equals(outcome));
        }

        private void refuses(Check.Maker from, int index, int number) {
            int[] numbers = usual.clone();
            numbers[index] = number;
            Check.refuses(name + " with " + number + " as number " + index, ranges.get(index).exception, from,
                    planner -> call.on(planner, numbers));
        }

        private void refusesBoth(int one, int oneNumber, int other, int otherNumber) {
            int[] numbers = usual.clone();
            numbers[one] = oneNumber;
            numbers[other] = otherNumber;
            boolean isIndex = ranges.get(one).exception == INDEX || ranges.get(other).exception == INDEX;
            Check.fails(name + " with " + oneNumber + " and " + otherNumber, isIndex ? INDEX : ARGUMENT,
                    () -> call.on(maker.make(), numbers));
        }
    }

    public static void main(String[] args) {
        persons();
        theses();
        committees();
        defences();
        waitingAndDays();
        characters();
        Check.end("BoundsTest");
    }

    private static Row row(String name, Call call, int... usual) {
        return new Row(name, Make::rich, call, usual);
    }

    private static void persons() {
        row("3: addPerson", (p, a) -> p.addPerson(a[0], a[1], a[2], a[3]), 0, 0, 0, 1)
                .range(ARGUMENT, 0, 2).range(ARGUMENT, 0, 63).range(ARGUMENT, 0, 3).range(ARGUMENT, 1, 6).check()
                .behind(STATE, p -> {
                    for (int i = 8; i < 14; i++) {
                        p.addPerson(0, 0, 0, 1);
                    }
                });
        for (boolean isOn : new boolean[] {true, false}) {
            row("4: setConflict", (p, a) -> p.setConflict(a[0], a[1], isOn), 2, 3)
                    .range(INDEX, 0, 7).range(INDEX, 0, 7).check();
            row("5: setBusy", (p, a) -> p.setBusy(a[0], a[1], a[2], isOn), 0, 5, 5)
                    .range(INDEX, 0, 7).range(ARGUMENT, 0, 400).range(ARGUMENT, 0, 7).check();
        }
        row("6: person", (p, a) -> p.person(a[0], a[1]), 0, 0).range(INDEX, 0, 7).range(ARGUMENT, 0, 7).check();
        row("7: isFree", (p, a) -> p.isFree(a[0], a[1], a[2]), 0, 0, 0)
                .range(INDEX, 0, 7).range(ARGUMENT, 0, 400).range(ARGUMENT, 0, 6).check();
        row("8: freeDay", (p, a) -> p.freeDay(a[0]), 0).range(INDEX, 0, 7).check()
                .behind(NONE, p -> Make.toLastDay(p).setBusy(0, 400, 3, true));
    }

    private static void theses() {
        row("9: addThesis", (p, a) -> p.addThesis(a[0], a[1], a[2], a[3]), 0, 0, 0, 0)
                .range(ARGUMENT, 0, 2).range(ARGUMENT, 0, 5).range(ARGUMENT, 0, 3).range(INDEX, 0, 7).check()
                .behind(STATE, p -> {
                    for (int i = 3; i < 8; i++) {
                        p.addThesis(0, 0, 0, 0);
                    }
                });
        row("10: thesis", (p, a) -> p.thesis(a[0], a[1]), 0, 0).range(INDEX, 0, 2).range(ARGUMENT, 0, 10).check();
    }

    private static void committees() {
        row("11: join", (p, a) -> p.join(a[0], a[1]), 2, 3).range(INDEX, 0, 2).range(INDEX, 0, 7).check()
                .behind(REFUSED, p -> p.setConflict(3, 7, true));
        row("12: leave", (p, a) -> p.leave(a[0], a[1]), 0, 0).range(INDEX, 0, 2).range(INDEX, 0, 7).check()
                .behind(STATE, p -> p.leave(0, 0));
        Row replace = row("13: replace", (p, a) -> p.replace(a[0], a[1], a[2]), 0, 0, 3)
                .range(INDEX, 0, 2).range(INDEX, 0, 7).range(INDEX, 0, 7).check();
        replace.behind(STATE, p -> p.leave(0, 0));
        replace.behind(REFUSED, p -> p.setConflict(3, 7, true));
        replace.behind(STATE, p -> {
            p.leave(0, 0);
            p.setConflict(3, 7, true);
        });
        row("14: whyNotJoin", (p, a) -> p.whyNotJoin(a[0], a[1]), 2, 3)
                .range(INDEX, 0, 2).range(INDEX, 0, 7).check();
        row("15: lacks", (p, a) -> p.lacks(a[0], a[1]), 2, 3).range(INDEX, 0, 2).range(ARGUMENT, 0, 4).check();
        row("16: replacements", (p, a) -> p.replacements(a[0], a[1]), 0, 0)
                .range(INDEX, 0, 2).range(INDEX, 0, 7).check()
                .behind(STATE, p -> p.leave(0, 0));
        Step enemies = p -> {
            for (int i = 0; i < 7; i++) {
                p.setConflict(i, 7, true);
            }
        };
        row("17: completion", (p, a) -> p.completion(a[0]), 2).range(INDEX, 0, 2).check().behind(NONE, enemies);
        row("18: complete", (p, a) -> p.complete(a[0]), 2).range(INDEX, 0, 2).check().behind(NONE, enemies);
    }

    private static void defences() {
        row("20: place", (p, a) -> p.place(a[0], a[1], a[2], a[3]), 0, 1, 40, 3)
                .range(INDEX, 0, 2).range(INDEX, 0, 2).range(ARGUMENT, 0, 400).range(ARGUMENT, 0, 6).check()
                .behind(REFUSED, p -> p.setBusy(0, 40, 3, true));
        row("21: takeBack", (p, a) -> p.takeBack(a[0]), 0).range(INDEX, 0, 2).check()
                .behind(STATE, p -> p.takeBack(0));
        row("22: whyNotPlace", (p, a) -> p.whyNotPlace(a[0], a[1], a[2], a[3]), 0, 1, 40, 3)
                .range(INDEX, 0, 2).range(INDEX, 0, 2).range(ARGUMENT, 0, 400).range(ARGUMENT, 0, 6).check();
        row("23: earliest", (p, a) -> p.earliest(a[0]), 0).range(INDEX, 0, 2).check()
                .behind(NONE, p -> p.leave(0, 0));
        row("24: deadline", (p, a) -> p.deadline(a[0], a[1]), 0, 1).range(INDEX, 0, 2).range(ARGUMENT, 1, 4).check()
                .behind(STATE, p -> p.takeBack(0));
        row("25: goOn", (p, a) -> p.goOn(a[0]), 0).range(INDEX, 0, 2).check().behind(STATE, p -> p.takeBack(0));
        row("27: inRoom", (p, a) -> p.inRoom(a[0], a[1], a[2]), 0, 30, 2)
                .range(INDEX, 0, 2).range(ARGUMENT, 0, 400).range(ARGUMENT, 0, 7).check()
                .behind(NONE, p -> p.takeBack(0));
    }

    private static void waitingAndDays() {
        row("28: await", (p, a) -> p.await(a[0]), 2).range(INDEX, 0, 2).check().behind(STATE, p -> {
            p.complete(2);
            p.place(2, 1, 50, 0);
        });
        row("30: waiting", (p, a) -> p.waiting(a[0]), 0).range(NONE, 0, 0).check();
        row("31: pass", (p, a) -> p.pass(a[0]), 5).range(ARGUMENT, 1, 99).check()
                .behind(STATE, p -> Make.toLastDay(p));
        row("32: account", (p, a) -> p.account(a[0]), 0).range(ARGUMENT, 0, 9).check();
    }

    private static void characters() {
        for (int code : new int[] {32, 126, '~', ' ', 'd'}) {
            Check.due("34: append takes " + code, 2, () -> Make.rich().append((char) code));
        }
        int[] beyond = {31, 127, 0, 9, 10, 128, 255, 256 + 32, 32768 + 59, 65535};
        for (int code : beyond) {
            Check.refuses("34: append of " + code, ARGUMENT, Make::rich, p -> p.append((char) code));
            Check.refuses("34: append of " + code + " to a full input", ARGUMENT, BoundsTest::fullInput,
                    p -> p.append((char) code));
        }
        Check.refuses("34: append to a full input", STATE, BoundsTest::fullInput, p -> p.append('d'));
    }

    private static CommitteePlanner fullInput() {
        CommitteePlanner planner = Make.rich();
        Make.type(planner, "d".repeat(59));
        return planner;
    }
}
