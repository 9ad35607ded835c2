/** Promises 7 to 12, and the terms of ways and results. */
public final class ExploreTest {
    private static final int MIN = Integer.MIN_VALUE;
    private static final int MAX = Integer.MAX_VALUE;
    private static final Check check = new Check();

    public static void main(String[] args) {
        exploreNoInstructions();
        waysInOrder();
        leastInputsGoByXFirst();
        widthBoundsTheInputs();
        wayOfFortyDecisions();
        sixtyFourWays();
        sixtyFiveWaysAreRefused();
        manyMoreWaysAreRefused();
        resultsStay();
        wrongWaysAndDecisions();
        match();
        matchByTheProgramOfNow();
        wrongMatches();
        example();
        exampleIsLeastNotFirst();
        covered();
        check.end();
    }

    private static void ways(String name, WayFinder finder, String... want) {
        check.due(name + ": explore", want.length, finder.explore());
        check.due(name + ": count(2)", want.length, finder.count(2));
        for (int k = 0; k < want.length; k++) {
            check.due(name + ": way " + k, want[k], Check.wayOf(finder, k));
        }
        check.refuses(name + ": one way more", Check.MISSING, finder,
                () -> finder.way(want.length, 0));
    }

    /** Crashes if y is 0, fails if x is below y, is late if x / y is 3, else returns x / y. */
    private static WayFinder allOutcomes() {
        return Check.with(Check.i(11, 2, 0, 1), Check.i(12, 2, 0, 0), Check.i(0, 3, 3, 0),
                Check.i(9, 2, 3, 3), Check.i(13, 2, 0, 0));
    }

    private static void exploreNoInstructions() {
        WayFinder finder = new WayFinder();
        ways("no instructions", finder, "0 0 0 0 0:");
        check.due("no instructions: covered", 0, finder.covered());
        check.refuses("no decision", Check.MISSING, finder, () -> finder.decision(0, 0));
    }

    private static void waysInOrder() {
        ways("all outcomes", allOutcomes(), "1 1 0 1 3:000",
                "3 1 3 3 39:00" + "1".repeat(37), "0 1 2 1 2:01", "0 0 1 0 1:1");
    }

    private static void leastInputsGoByXFirst() {
        WayFinder finder = Check.with(Check.i(1, 2, 0, 1), Check.i(0, 3, 7, 0),
                Check.i(9, 2, 3, 4), Check.i(13, 0, 0, 0), Check.i(9, 0, 1, 24),
                Check.i(8, 0, 1, 24));
        ways("a sum of 7", finder, "0 0 0 0 1:0", "4 3 0 4 3:100", "0 7 0 0 3:101");
    }

    private static void widthBoundsTheInputs() {
        WayFinder finder = Check.with(Check.i(0, 2, 9, 0), Check.i(9, 0, 2, 24), Check.i(0, 2, 1, 0),
                Check.i(9, 1, 2, 24));
        ways("width 3", finder, "0 0 0 0 2:00", "0 1 0 0 2:01");
        finder.width(4);
        ways("width 4", finder, "0 0 0 0 2:00", "0 1 0 0 2:01", "9 0 0 9 1:1");
        finder.width(1);
        ways("width 1", finder, "0 0 0 0 2:00", "0 1 0 0 2:01");
        finder.undo();
        ways("one decision", finder, "0 0 0 0 1:0");
    }

    private static void wayOfFortyDecisions() {
        ways("ones", Check.with(Check.i(9, 0, 0, 0)), "0 0 3 0 40:" + "1".repeat(40));
        WayFinder mixed = Check.with(Check.i(8, 0, 0, 0), Check.i(9, 0, 1, 0));
        ways("zeros and ones", mixed, "0 1 0 0 2:00", "0 0 3 1 40:" + "01".repeat(20));
        WayFinder lastIsZero = Check.with(Check.i(8, 0, 0, 0), Check.i(8, 0, 0, 0),
                Check.i(9, 0, 0, 1));
        ways("a zero at the end", lastIsZero, "0 0 3 1 40:0" + "01".repeat(19) + "0");
    }

    private static WayFinder sixBits() {
        WayFinder finder = new WayFinder();
        finder.width(4);
        addSixBits(finder);
        return finder;
    }

    /** Tells three bits of each input apart, which makes 64 ways of width 3 and more. */
    private static void addSixBits(WayFinder finder) {
        finder.instr(0, 3, 1, 0);
        for (int bit = 0; bit < 3; bit++) {
            int next = finder.count(0);
            Check.add(finder, Check.i(3, 2, 0, 3), Check.i(9, 2, 3, next + 2),
                    Check.i(3, 2, 1, 3), Check.i(9, 2, 3, next + 4),
                    Check.i(7, 0, 0, 1), Check.i(7, 1, 1, 1));
        }
    }

    private static void sixtyFourWays() {
        WayFinder finder = sixBits();
        check.due("64 ways", 64, finder.explore());
        for (int k = 0; k < 64; k++) {
            int x = k >> 5 & 1 | k >> 2 & 2 | k << 1 & 4;
            int y = k >> 4 & 1 | k >> 1 & 2 | k << 2 & 4;
            String decisions = Integer.toBinaryString(64 + k).substring(1);
            check.due("way " + k + " of 64", x + " " + y + " 0 0 6:" + decisions,
                    Check.wayOf(finder, k));
            check.due("match of the way " + k, k, finder.match(x, y));
        }
        check.refuses("way 64 of 64", Check.MISSING, finder, () -> finder.way(64, 0));
        check.due("match of what is alike", finder.match(0, 0), finder.match(8, 8));
        finder.instr(9, 0, 3, 24);
        check.refuses("match of seven decisions", Check.MISSING, finder, () -> finder.match(7, 7));
    }

    /** 64 ways, and one more for x = 15, which only width 4 has. */
    private static void sixtyFiveWaysAreRefused() {
        WayFinder finder = Check.with(Check.i(0, 2, 15, 0), Check.i(9, 0, 2, 24));
        addSixBits(finder);
        check.due("explore of 64 ways", 64, finder.explore());
        finder.run(1, 1);
        finder.width(4);
        check.refuses("explore of 65 ways", Check.STATE, finder, finder::explore);
        check.refuses("explore of 65 ways again", Check.STATE, finder, finder::explore);
        finder.width(3);
        check.due("explore of 64 ways again", 64, finder.explore());
        finder.width(2);
        check.due("explore of 16 ways", 16, finder.explore());
    }

    private static void manyMoreWaysAreRefused() {
        WayFinder finder = sixBits();
        finder.explore();
        finder.instr(9, 0, 3, 24);
        finder.instr(9, 1, 3, 24);
        check.refuses("explore of 192 ways", Check.STATE, finder, finder::explore);
        finder.undo();
        check.refuses("explore of 128 ways", Check.STATE, finder, finder::explore);
        finder.undo();
        check.due("explore of 64 ways behind it", 64, finder.explore());
    }

    private static void resultsStay() {
        WayFinder finder = allOutcomes();
        finder.explore();
        String first = resultsOf(finder);
        finder.width(4);
        finder.run(15, 15);
        for (int k = 0; k < 5; k++) {
            finder.undo();
        }
        finder.instr(13, 1, 0, 0);
        check.due("results behind other calls", first, resultsOf(finder));
        ways("another exploring", finder, "0 0 0 0 0:");
        check.due("covered by another exploring", 1, finder.covered());
    }

    private static String resultsOf(WayFinder finder) {
        StringBuilder text = new StringBuilder();
        for (int k = 0; k < finder.count(2); k++) {
            text.append(Check.wayOf(finder, k)).append('\n');
        }
        for (int outcome = 0; outcome < 4; outcome++) {
            int asked = outcome;
            text.append(Check.answerOf(() -> finder.example(asked))).append('\n');
        }
        return text.append(finder.covered()).toString();
    }

    private static void wrongWaysAndDecisions() {
        WayFinder finder = allOutcomes();
        check.refuses("way(0, 9) of none", Check.MISSING, finder, () -> finder.way(0, 9));
        finder.explore();
        for (int wrong : new int[] {-1, 4, 63, 64, MIN, MAX}) {
            check.refuses("way(" + wrong + ", 0)", Check.MISSING, finder, () -> finder.way(wrong, 0));
            check.refuses("way(" + wrong + ", 5)", Check.MISSING, finder, () -> finder.way(wrong, 5));
            check.refuses("decision(" + wrong + ", 0)", Check.MISSING, finder,
                    () -> finder.decision(wrong, 0));
        }
        for (int wrong : new int[] {-1, 5, MIN, MAX}) {
            check.refuses("way(3, " + wrong + ")", Check.ARGUMENT, finder, () -> finder.way(3, wrong));
        }
        for (int wrong : new int[] {-1, 3, 39, 40, 64, MIN, MAX}) {
            check.refuses("decision(0, " + wrong + ")", Check.MISSING, finder,
                    () -> finder.decision(0, wrong));
        }
    }

    private static void match() {
        WayFinder finder = allOutcomes();
        finder.explore();
        check.due("match of 1 / 1", 0, finder.match(1, 1));
        check.due("match of 5 / 2", 0, finder.match(5, 2));
        check.due("match of 7 / 2", 1, finder.match(7, 2));
        check.due("match of 1 / 2", 2, finder.match(1, 2));
        check.due("match of 7 / 0", 3, finder.match(7, 0));
        finder.width(4);
        check.due("match of inputs that were not explored", 1, finder.match(15, 5));
    }

    private static void matchByTheProgramOfNow() {
        WayFinder finder = allOutcomes();
        finder.explore();
        finder.undo();
        finder.undo();
        check.due("the first way that begins with 0 0", 0, finder.match(7, 2));
        check.due("the way 0 1", 2, finder.match(1, 2));
        finder.undo();
        finder.undo();
        check.due("the first way that begins with 0", 0, finder.match(1, 2));
        check.due("the first way that begins with 1", 3, finder.match(7, 0));
        finder.undo();
        check.due("the first way of all", 0, finder.match(7, 0));
        Check.add(finder, Check.i(9, 2, 3, 1), Check.i(9, 0, 1, 24));
        check.refuses("no way begins with 1 0", Check.MISSING, finder, () -> finder.match(1, 2));
        check.refuses("no way begins with 1 1", Check.MISSING, finder, () -> finder.match(1, 1));
        runsLongerThanAWay();
    }

    private static void runsLongerThanAWay() {
        WayFinder finder = Check.with(Check.i(8, 0, 0, 0));
        finder.explore();
        finder.instr(8, 0, 0, 0);
        check.refuses("a run of 0 0, a way of 0", Check.MISSING, finder, () -> finder.match(0, 0));
        finder.explore();
        check.due("a run of 0 0, a way of 0 0", 0, finder.match(0, 0));
    }

    private static void wrongMatches() {
        WayFinder finder = allOutcomes();
        check.refuses("match(8, 0) with no results", Check.ARGUMENT, finder,
                () -> finder.match(8, 0));
        finder.explore();
        for (int wrong : new int[] {-1, 8, MIN, MAX}) {
            check.refuses("match(" + wrong + ", 0)", Check.ARGUMENT, finder,
                    () -> finder.match(wrong, 0));
            check.refuses("match(0, " + wrong + ")", Check.ARGUMENT, finder,
                    () -> finder.match(0, wrong));
        }
    }

    private static void example() {
        WayFinder finder = allOutcomes();
        check.refuses("example(4) with no results", Check.ARGUMENT, finder, () -> finder.example(4));
        finder.width(1);
        finder.explore();
        check.due("returned", 17, finder.example(0));
        check.due("crashed", 0, finder.example(1));
        check.due("failed", 1, finder.example(2));
        check.refuses("late", Check.MISSING, finder, () -> finder.example(3));
        finder.width(4);
        finder.explore();
        check.due("late", 16 * 3 + 1, finder.example(3));
        for (int wrong : new int[] {-1, 4, MIN, MAX}) {
            check.refuses("example(" + wrong + ")", Check.ARGUMENT, finder,
                    () -> finder.example(wrong));
        }
    }

    private static void exampleIsLeastNotFirst() {
        WayFinder finder = Check.with(Check.i(8, 0, 1, 24));
        finder.explore();
        check.due("x not below y", 0, finder.example(0));
        WayFinder later = Check.with(Check.i(9, 0, 2, 24));
        ways("x is 0 comes last", later, "1 0 0 1 1:0", "0 0 0 0 1:1");
        check.due("the last way has the least inputs", 0, later.example(0));
        WayFinder largest = Check.with(Check.i(1, 2, 0, 1), Check.i(0, 3, 30, 0),
                Check.i(9, 2, 3, 4), Check.i(13, 0, 0, 0), Check.i(12, 1, 0, 0), Check.i(11, 0, 0, 1),
                Check.i(2, 2, 2, 3), Check.i(12, 2, 0, 0));
        largest.width(4);
        largest.explore();
        check.due("15 and 15", 255, largest.example(2));
    }

    private static void covered() {
        WayFinder finder = Check.with(Check.i(0, 2, 9, 0), Check.i(9, 0, 2, 3), Check.i(10, 0, 0, 4),
                Check.i(0, 3, 1, 0), Check.i(13, 0, 0, 0), Check.i(0, 0, 0, 0));
        check.due("covered before", 0, finder.covered());
        finder.run(0, 0);
        check.due("covered by a run alone", 0, finder.covered());
        finder.explore();
        check.due("covered in width 3", 0b010111, finder.covered());
        finder.width(4);
        check.due("covered as it was explored", 0b010111, finder.covered());
        finder.explore();
        check.due("covered in width 4", 0b011111, finder.covered());
        finder.undo();
        finder.undo();
        check.due("covered by the program as it was", 0b011111, finder.covered());
        finder.explore();
        check.due("covered by a shorter program", 0b001111, finder.covered());
        coveredAll();
    }

    private static void coveredAll() {
        WayFinder finder = new WayFinder();
        for (int k = 0; k < 24; k++) {
            finder.instr(0, 0, 0, 0);
        }
        finder.explore();
        check.due("covered of 24", (1 << 24) - 1, finder.covered());
    }
}
