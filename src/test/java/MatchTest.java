/** Promise 10: match. */
public final class MatchTest {
    private static final int MIN = Integer.MIN_VALUE;
    private static final int MAX = Integer.MAX_VALUE;
    private static final Check check = new Check();

    public static void main(String[] args) {
        wayOfInputs();
        inputsThatWereNotExplored();
        everyInputIsMatched();
        programOfNow();
        runWithoutDecisions();
        runWithFewerDecisions();
        runThatEndsBeforeA1();
        runWithMoreDecisions();
        runThatDiffersInTheLastDecision();
        runThatDiffersInThe40thDecision();
        refusesInputs();
        refusesWithNoResults();
        refusesWithWaysOfAnotherProgram();
        changesNothing();
        check.end();
    }

    private static Recorded explored(Recorded finder) {
        finder.explore();
        return finder;
    }

    private static void matches(String name, Recorded finder, int x, int y, int want) {
        check.answers(name, want, () -> finder.match(x, y));
    }

    private static void misses(String name, Recorded finder, int x, int y) {
        check.refuses(name, Check.MISSING, finder, () -> finder.match(x, y));
    }

    private static void wayOfInputs() {
        check.by("The place among the results of the way that inputs would take now");
        Recorded finder = explored(Programs.allOutcomes());
        matches("1 / 1", finder, 1, 1, 0);
        matches("5 / 2", finder, 5, 2, 0);
        matches("7 / 2", finder, 7, 2, 1);
        matches("1 / 2", finder, 1, 2, 2);
        matches("7 / 0", finder, 7, 0, 3);
        matches("0 / 0", finder, 0, 0, 3);
        matches("7 / 7", finder, 7, 7, 0);
    }

    private static void inputsThatWereNotExplored() {
        Recorded finder = explored(Programs.allOutcomes());
        finder.width(4);
        matches("15 / 5", finder, 15, 5, 1);
        matches("15 / 15", finder, 15, 15, 0);
        matches("15 / 0", finder, 15, 0, 3);
        Recorded narrow = Programs.allOutcomes();
        narrow.width(1);
        narrow.explore();
        narrow.width(3);
        misses("7 / 2, on a way that no inputs of width 1 take", narrow, 7, 2);
    }

    private static void everyInputIsMatched() {
        Recorded finder = explored(Programs.allOutcomes());
        for (int x = 0; x < 8; x++) {
            for (int y = 0; y < 8; y++) {
                int want = y == 0 ? 3 : x < y ? 2 : x / y == 3 ? 1 : 0;
                matches(x + " / " + y, finder, x, y, want);
            }
        }
    }

    private static void programOfNow() {
        check.by("the way that inputs would take now");
        Recorded finder = explored(Recorded.with(Check.i(8, 0, 1, 24)));
        matches("1 is below 2", finder, 1, 2, 1);
        finder.undo();
        finder.instr(8, 1, 0, 24);
        matches("2 is not below 1", finder, 1, 2, 0);
        finder.undo();
        finder.instr(12, 2, 0, 0);
        matches("a failure is the decision 1 too", finder, 1, 2, 1);
    }

    private static void runWithoutDecisions() {
        check.by("the first way that agrees with all decisions of their run");
        Recorded finder = explored(Programs.allOutcomes());
        for (int k = 0; k < 5; k++) {
            finder.undo();
        }
        matches("no instructions", finder, 7, 0, 0);
        finder.instr(13, 1, 0, 0);
        matches("no decisions", finder, 7, 2, 0);
        Recorded none = explored(new Recorded());
        matches("no decisions, a way of none", none, 7, 7, 0);
    }

    private static void runWithFewerDecisions() {
        Recorded finder = explored(Programs.allOutcomes());
        finder.undo();
        finder.undo();
        matches("two ways begin with 0 0, the first is the one", finder, 7, 2, 0);
        matches("the way 0 1", finder, 1, 2, 2);
        matches("the way 1", finder, 7, 0, 3);
        finder.undo();
        finder.undo();
        matches("three ways begin with 0, the first is the one", finder, 1, 2, 0);
        matches("the way 1 still", finder, 7, 0, 3);
    }

    private static void runThatEndsBeforeA1() {
        Recorded finder = explored(Recorded.with(Check.i(9, 0, 0, 1), Check.i(9, 0, 0, 2)));
        matches("a run of 1 1, a way of 1 1", finder, 1, 2, 0);
        finder.undo();
        matches("a run of 1, a way of 1 1", finder, 1, 2, 0);
        finder.undo();
        matches("a run of none, a way of 1 1", finder, 1, 2, 0);
        Recorded ones = explored(Recorded.with(Check.i(9, 0, 0, 0)));
        ones.undo();
        matches("a run of none, a way of 40", ones, 1, 2, 0);
    }

    private static void runWithMoreDecisions() {
        Recorded finder = explored(Recorded.with(Check.i(8, 0, 0, 0)));
        finder.instr(8, 0, 0, 0);
        misses("a run of 0 0, a way of 0", finder, 0, 0);
        finder.explore();
        matches("a run of 0 0, a way of 0 0", finder, 0, 0, 0);
        Recorded none = explored(new Recorded());
        none.instr(8, 0, 0, 0);
        misses("a run of 0, a way of none", none, 0, 0);
        Recorded ones = explored(Recorded.with(Check.i(9, 0, 0, 1)));
        ones.instr(9, 0, 0, 2);
        misses("a run of 1 1, a way of 1", ones, 0, 0);
        sixtyFourWaysAreTooShort();
    }

    private static void sixtyFourWaysAreTooShort() {
        Recorded finder = new Recorded();
        Programs.addSixBits(finder);
        finder.explore();
        matches("the last of 64 ways", finder, 7, 7, 63);
        finder.instr(9, 0, 3, 24);
        misses("seven decisions, 64 ways of six", finder, 7, 7);
        misses("seven decisions, 64 ways of six", finder, 0, 0);
    }

    private static void runThatDiffersInTheLastDecision() {
        check.by("NoSuchElementException: none does.");
        Recorded finder = Recorded.with(Check.i(8, 0, 0, 24), Check.i(8, 0, 0, 24));
        finder.explore();
        matches("a run of 0 0, a way of 0 0", finder, 1, 2, 0);
        finder.undo();
        finder.instr(9, 0, 0, 24);
        misses("a run of 0 1, a way of 0 0", finder, 1, 2);
        finder.undo();
        finder.undo();
        finder.instr(9, 0, 0, 24);
        misses("a run of 1, a way of 0 0", finder, 1, 2);
    }

    private static void runThatDiffersInThe40thDecision() {
        Recorded finder = explored(Programs.twoRounds());
        matches("0 as the 40th", finder, 7, 7, 0);
        matches("1 as the 40th", finder, 6, 7, 1);
        finder.width(1);
        finder.explore();
        finder.width(2);
        matches("0 as the 40th, one way of 40", finder, 3, 3, 0);
        misses("1 as the 40th, one way of 40", finder, 2, 3);
    }

    private static void refusesInputs() {
        check.by("IllegalArgumentException: x or y out of range.");
        Recorded finder = explored(Programs.allOutcomes());
        finder.run(5, 2);
        for (int bits = 1; bits <= 4; bits++) {
            finder.width(bits);
            int most = (1 << bits) - 1;
            matches("the largest inputs of width " + bits, finder, most, most, 0);
            for (int wrong : new int[] {-1, most + 1, 16, MIN, MAX}) {
                check.refuses("match(" + wrong + ", 0)", Check.ARGUMENT, finder,
                        () -> finder.match(wrong, 0));
                check.refuses("match(0, " + wrong + ")", Check.ARGUMENT, finder,
                        () -> finder.match(0, wrong));
                check.refuses("match(" + wrong + ", " + wrong + ")", Check.ARGUMENT, finder,
                        () -> finder.match(wrong, wrong));
            }
        }
    }

    private static void refusesWithNoResults() {
        check.by("NoSuchElementException: none does.");
        misses("no results, no instructions", new Recorded(), 0, 0);
        Recorded finder = Programs.allOutcomes();
        finder.run(5, 2);
        misses("no results", finder, 5, 2);
    }

    private static void refusesWithWaysOfAnotherProgram() {
        Recorded finder = explored(Programs.allOutcomes());
        for (int k = 0; k < 5; k++) {
            finder.undo();
        }
        finder.add(Check.i(9, 2, 3, 1), Check.i(9, 0, 1, 24));
        misses("no way begins with 1 0", finder, 1, 2);
        misses("no way begins with 1 1", finder, 1, 1);
    }

    private static void changesNothing() {
        check.by("Of the last run .. runs by run so far .. they stay until another");
        Recorded finder = explored(Programs.allOutcomes());
        finder.run(7, 2);
        String before = State.of(finder);
        finder.match(1, 0);
        check.due("the state behind match", before, State.of(finder));
    }
}
