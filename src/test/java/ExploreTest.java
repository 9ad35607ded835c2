/** Promises 7 to 9, 11 and 12, and the terms of ways and results. */
public final class ExploreTest {
    private static final int MIN = Integer.MIN_VALUE;
    private static final int MAX = Integer.MAX_VALUE;
    private static final Check check = new Check();

    public static void main(String[] args) {
        waysInOrder();
        orderByTheFirstDecision();
        orderByThe40thDecision();
        lessInputsGoByXFirst();
        allInputsAreExplored();
        widthBoundsTheInputs();
        noResultsAtFirst();
        resultsStay();
        resultsOfTheLastExploring();
        exploreNoInstructions();
        exploreSixtyFourWays();
        exploreRefusesSixtyFive();
        exploreRefusesAll256();
        exploreRefusesAtFirst();
        wayTellsFive();
        wayRefusesPlaces();
        wayRefusesWhat();
        decisionTellsEach();
        decisionOfForty();
        decisionRefusesWays();
        decisionRefusesPlaces();
        exampleOfEachOutcome();
        exampleIsTheLeast();
        exampleOfTheLargestInputs();
        exampleRefusesOutcomes();
        exampleRefusesWhatNoneHas();
        coveredByTheResults();
        coveredNone();
        coveredAll();
        coveredByTheProgramAsItWas();
        check.end();
    }

    private static void ways(String name, Recorded finder, String... want) {
        check.answers(name + ": explore", want.length, finder::explore);
        check.due(name + ": count(2)", want.length, finder.count(2));
        for (int k = 0; k < want.length; k++) {
            check.due(name + ": way " + k, want[k], State.wayOf(finder, k));
        }
        check.refuses(name + ": one way more", Check.MISSING, finder,
                () -> finder.way(want.length, 0));
    }

    private static void waysInOrder() {
        check.by("Ways stand in order by their first decision that differs (0 first ..");
        ways("all outcomes", Programs.allOutcomes(), "1 1 0 1 3:000",
                "3 1 3 3 39:00" + "1".repeat(37), "0 1 2 1 2:01", "0 0 1 0 1:1");
    }

    private static void orderByTheFirstDecision() {
        ways("a long way before a short one", Recorded.with(Check.i(9, 0, 2, 24),
                Check.i(12, 0, 0, 0), Check.i(12, 0, 0, 0)), "1 0 0 1 3:000", "0 0 0 0 1:1");
        ways("a short way before a long one", Recorded.with(Check.i(9, 0, 2, 2),
                Check.i(13, 0, 0, 0), Check.i(8, 0, 0, 0), Check.i(8, 0, 0, 0)),
                "1 0 0 1 1:0", "0 0 0 0 3:100");
    }

    private static void orderByThe40thDecision() {
        String first39 = "0".repeat(23) + "1" + "0".repeat(15);
        ways("two that differ in the 40th", Programs.twoRounds(), "1 1 3 15 40:" + first39 + "0",
                "1 2 0 0 40:" + first39 + "1", "1 0 1 16 17:" + "0".repeat(16) + "1",
                "0 0 0 0 16:" + "0".repeat(15) + "1");
    }

    private static void lessInputsGoByXFirst() {
        check.by("Inputs are less than others if x is less, or x is the same and y is less.");
        Recorded finder = Recorded.with(Check.i(1, 2, 0, 1), Check.i(0, 3, 7, 0),
                Check.i(9, 2, 3, 4), Check.i(13, 0, 0, 0), Check.i(9, 0, 1, 24),
                Check.i(8, 0, 1, 24));
        ways("a sum of 7", finder, "0 0 0 0 1:0", "4 3 0 4 3:100", "0 7 0 0 3:101");
        ways("y is not 0", Recorded.with(Check.i(12, 1, 0, 0)), "0 1 0 0 1:0", "0 0 2 0 1:1");
        ways("x is not 0", Recorded.with(Check.i(12, 0, 0, 0)), "1 0 0 1 1:0", "0 0 2 0 1:1");
    }

    private static void allInputsAreExplored() {
        check.by("EXPLORING finds all ways that any inputs have");
        for (int bits = 1; bits <= 4; bits++) {
            int most = (1 << bits) - 1;
            onlyInputs(bits, 0, 0);
            onlyInputs(bits, most, 0);
            onlyInputs(bits, 0, most);
            onlyInputs(bits, most, most);
        }
    }

    /** One way is that of these inputs alone, another one that of the same x and any other y. */
    private static void onlyInputs(int bits, int x, int y) {
        Recorded finder = Recorded.with(Check.i(0, 2, x, 0), Check.i(0, 3, y, 0),
                Check.i(9, 0, 2, 5), Check.i(0, 0, 99, 0), Check.i(13, 0, 0, 0),
                Check.i(9, 1, 3, 7), Check.i(13, 0, 0, 0), Check.i(0, 0, 111, 0));
        finder.width(bits);
        int otherX = x == 0 ? 1 : 0;
        int otherY = y == 0 ? 1 : 0;
        ways(x + " and " + y + " of width " + bits, finder, otherX + " 0 0 99 1:0",
                x + " " + otherY + " 0 " + x + " 2:10", x + " " + y + " 0 111 2:11");
    }

    private static void widthBoundsTheInputs() {
        Recorded finder = Recorded.with(Check.i(0, 2, 9, 0), Check.i(9, 0, 2, 24),
                Check.i(0, 2, 1, 0), Check.i(9, 1, 2, 24));
        ways("width 3", finder, "0 0 0 0 2:00", "0 1 0 0 2:01");
        finder.width(4);
        ways("width 4", finder, "0 0 0 0 2:00", "0 1 0 0 2:01", "9 0 0 9 1:1");
        finder.width(1);
        ways("width 1", finder, "0 0 0 0 2:00", "0 1 0 0 2:01");
        finder.undo();
        ways("one decision", finder, "0 0 0 0 1:0");
    }

    private static void noResultsAtFirst() {
        check.by("THE RESULTS are those of the last exploring, none at first");
        Recorded finder = Programs.allOutcomes();
        finder.run(1, 1);
        check.due("count(2)", 0, finder.count(2));
        check.due("covered", 0, finder.covered());
        check.refuses("way(0, 0)", Check.MISSING, finder, () -> finder.way(0, 0));
        check.refuses("decision(0, 0)", Check.MISSING, finder, () -> finder.decision(0, 0));
        check.refuses("match(0, 0)", Check.MISSING, finder, () -> finder.match(0, 0));
        check.refuses("example(0)", Check.MISSING, finder, () -> finder.example(0));
    }

    private static void resultsStay() {
        check.by("they stay until another");
        Recorded finder = Programs.allOutcomes();
        finder.explore();
        String first = State.resultsOf(finder);
        finder.width(4);
        finder.run(15, 15);
        finder.match(15, 15);
        for (int k = 0; k < 5; k++) {
            finder.undo();
        }
        finder.instr(13, 1, 0, 0);
        check.due("results behind other calls", first, State.resultsOf(finder));
    }

    private static void resultsOfTheLastExploring() {
        Recorded finder = Programs.allOutcomes();
        finder.explore();
        String first = State.resultsOf(finder);
        finder.explore();
        check.due("results of the same again", first, State.resultsOf(finder));
        finder.width(1);
        ways("fewer ways", finder, "1 1 0 1 3:000", "0 1 2 1 2:01", "0 0 1 0 1:1");
        finder.undo();
        finder.undo();
        finder.undo();
        finder.undo();
        ways("fewer still", finder, "0 1 0 0 1:0", "0 0 1 0 1:1");
        check.due("covered by it", 1, finder.covered());
        check.refuses("no failure now", Check.MISSING, finder, () -> finder.example(2));
    }

    private static void exploreNoInstructions() {
        check.by("Explores; answers how many ways there are.");
        Recorded finder = new Recorded();
        ways("no instructions", finder, "0 0 0 0 0:");
        finder.instr(13, 1, 0, 0);
        ways("no decisions", finder, "0 0 0 0 0:");
        finder.undo();
        finder.instr(10, 0, 0, 0);
        ways("all late", finder, "0 0 3 0 0:");
    }

    private static void exploreSixtyFourWays() {
        check.by("IllegalStateException: there are more than 64.");
        Recorded finder = new Recorded();
        finder.width(4);
        Programs.addSixBits(finder);
        check.answers("64 ways", 64, finder::explore);
        for (int k = 0; k < 64; k++) {
            int x = k >> 5 & 1 | k >> 2 & 2 | k << 1 & 4;
            int y = k >> 4 & 1 | k >> 1 & 2 | k << 2 & 4;
            int place = k;
            String decisions = Integer.toBinaryString(64 + k).substring(1);
            check.due("way " + k + " of 64", x + " " + y + " 0 0 6:" + decisions,
                    State.wayOf(finder, k));
            check.answers("match of the way " + k, place, () -> finder.copy().match(x, y));
        }
        check.refuses("way(64, 0) of 64", Check.MISSING, finder, () -> finder.way(64, 0));
    }

    /** 64 ways, and one more for 15 and 15, the last of all inputs, which only width 4 has. */
    private static void exploreRefusesSixtyFive() {
        Recorded finder = Recorded.with(Check.i(1, 2, 0, 1), Check.i(0, 3, 30, 0),
                Check.i(9, 2, 3, 24));
        Programs.addSixBits(finder);
        check.answers("64 ways of width 3", 64, finder::explore);
        finder.run(1, 1);
        finder.width(4);
        check.refuses("65 ways of width 4", Check.STATE, finder, finder::explore);
        check.refuses("65 ways again", Check.STATE, finder, finder::explore);
        finder.width(3);
        check.answers("64 ways again", 64, finder::explore);
        finder.width(2);
        check.answers("16 ways of width 2", 16, finder::explore);
        finder.width(4);
        check.refuses("65 ways behind 16", Check.STATE, finder, finder::explore);
    }

    private static void exploreRefusesAll256() {
        Recorded finder = Programs.eightBits();
        finder.width(3);
        check.answers("64 ways of width 3", 64, finder::explore);
        finder.width(4);
        check.refuses("256 ways of width 4", Check.STATE, finder, finder::explore);
        finder.undo();
        check.refuses("128 ways", Check.STATE, finder, finder::explore);
        finder.undo();
        finder.undo();
        finder.undo();
        check.answers("64 ways", 64, finder::explore);
    }

    private static void exploreRefusesAtFirst() {
        Recorded finder = Programs.eightBits();
        check.refuses("256 ways at first", Check.STATE, finder, finder::explore);
        check.due("ways behind it", 0, finder.count(2));
        check.due("covered behind it", 0, finder.covered());
        check.refuses("way(0, 0) behind it", Check.MISSING, finder, () -> finder.way(0, 0));
        check.refuses("match(0, 0) behind it", Check.MISSING, finder, () -> finder.match(0, 0));
        check.refuses("last(0) behind it", Check.MISSING, finder, () -> finder.last(0));
    }

    private static void wayTellsFive() {
        check.by("x (0) and y (1) of its least inputs, the OUTCOME for them (2), "
                + "what last(0) would be behind their run (3), how many decisions it has (4)");
        Recorded finder = Recorded.with(Check.i(0, 2, 11, 0), Check.i(0, 3, 13, 0),
                Check.i(9, 0, 2, 4), Check.i(11, 0, 0, 1), Check.i(8, 1, 3, 24),
                Check.i(0, 0, 255, 0));
        finder.width(4);
        ways("11 and 13", finder, "0 13 0 255 3:000", "0 1 0 0 3:001", "0 0 1 3 2:01",
                "11 13 0 255 2:10", "11 0 0 11 2:11");
        for (int k = 0; k < 5; k++) {
            Recorded again = finder.copy();
            int outcome = again.run(finder.way(k, 0), finder.way(k, 1));
            check.due("outcome of the way " + k, finder.way(k, 2), outcome);
            check.due("last(0) behind the way " + k, finder.way(k, 3), again.last(0));
            check.due("last(2) behind the way " + k, finder.way(k, 4), again.last(2));
        }
    }

    private static void wayRefusesPlaces() {
        check.by("NoSuchElementException: there is none.");
        Recorded finder = Programs.allOutcomes();
        check.refuses("way(0, 0) with no results", Check.MISSING, finder, () -> finder.way(0, 0));
        finder.explore();
        check.answers("way(0, 0)", 1, () -> finder.way(0, 0));
        check.answers("way(3, 2)", 1, () -> finder.way(3, 2));
        for (int wrong : new int[] {-1, 4, 5, 63, 64, MIN, MAX}) {
            for (int what = 0; what <= 4; what++) {
                int asked = what;
                check.refuses("way(" + wrong + ", " + asked + ")", Check.MISSING, finder,
                        () -> finder.way(wrong, asked));
            }
        }
    }

    private static void wayRefusesWhat() {
        check.by("IllegalArgumentException: another what.");
        Recorded finder = Programs.allOutcomes();
        finder.explore();
        for (int wrong : new int[] {-1, 5, MIN, MAX}) {
            for (int k = 0; k < 4; k++) {
                int place = k;
                check.refuses("way(" + k + ", " + wrong + ")", Check.ARGUMENT, finder,
                        () -> finder.way(place, wrong));
            }
        }
    }

    private static void decisionTellsEach() {
        check.by("The decision at the place j (from 0) of the way at the place k.");
        Recorded finder = Programs.allOutcomes();
        finder.explore();
        check.answers("decision(0, 0)", 0, () -> finder.decision(0, 0));
        check.answers("decision(0, 2)", 0, () -> finder.decision(0, 2));
        check.answers("decision(1, 1)", 0, () -> finder.decision(1, 1));
        check.answers("decision(1, 2)", 1, () -> finder.decision(1, 2));
        check.answers("decision(1, 38)", 1, () -> finder.decision(1, 38));
        check.answers("decision(2, 0)", 0, () -> finder.decision(2, 0));
        check.answers("decision(2, 1)", 1, () -> finder.decision(2, 1));
        check.answers("decision(3, 0)", 1, () -> finder.decision(3, 0));
    }

    private static void decisionOfForty() {
        ways("ones", Recorded.with(Check.i(9, 0, 0, 0)), "0 0 3 0 40:" + "1".repeat(40));
        Recorded mixed = Recorded.with(Check.i(8, 0, 0, 0), Check.i(9, 0, 1, 0));
        ways("zeros and ones", mixed, "0 1 0 0 2:00", "0 0 3 1 40:" + "01".repeat(20));
        Recorded lastIsZero = Recorded.with(Check.i(8, 0, 0, 0), Check.i(8, 0, 0, 0),
                Check.i(9, 0, 0, 1));
        ways("a zero at the end", lastIsZero, "0 0 3 1 40:0" + "01".repeat(19) + "0");
        check.answers("decision(0, 39)", 0, () -> lastIsZero.decision(0, 39));
        check.refuses("decision(0, 40)", Check.MISSING, lastIsZero,
                () -> lastIsZero.decision(0, 40));
    }

    private static void decisionRefusesWays() {
        check.by("NoSuchElementException: there is no such way or decision.");
        Recorded finder = Programs.allOutcomes();
        check.refuses("decision(0, 0) with no results", Check.MISSING, finder,
                () -> finder.decision(0, 0));
        finder.explore();
        for (int wrong : new int[] {-1, 4, 5, 63, 64, MIN, MAX}) {
            for (int j : new int[] {-1, 0, 1, 64}) {
                check.refuses("decision(" + wrong + ", " + j + ")", Check.MISSING, finder,
                        () -> finder.decision(wrong, j));
            }
        }
    }

    private static void decisionRefusesPlaces() {
        Recorded finder = Programs.allOutcomes();
        finder.explore();
        int[] decisions = {3, 39, 2, 1};
        for (int k = 0; k < 4; k++) {
            for (int wrong : new int[] {-1, decisions[k], 39, 40, 64, MIN, MAX}) {
                int place = k;
                check.refuses("decision(" + k + ", " + wrong + ")", Check.MISSING, finder,
                        () -> finder.decision(place, wrong));
            }
        }
        Recorded none = new Recorded();
        none.explore();
        check.refuses("decision(0, 0) of none", Check.MISSING, none, () -> none.decision(0, 0));
    }

    private static void exampleOfEachOutcome() {
        check.by("The least inputs among those of the results that have an outcome (0 .. 3): "
                + "16 x + y.");
        Recorded finder = Programs.allOutcomes();
        finder.width(4);
        finder.explore();
        check.answers("returned", 16 + 1, () -> finder.example(0));
        check.answers("crashed", 0, () -> finder.example(1));
        check.answers("failed", 1, () -> finder.example(2));
        check.answers("late", 16 * 3 + 1, () -> finder.example(3));
    }

    private static void exampleIsTheLeast() {
        Recorded lastWay = Recorded.with(Check.i(9, 0, 2, 24));
        ways("x is 0 comes last", lastWay, "1 0 0 1 1:0", "0 0 0 0 1:1");
        check.answers("the last way has the least inputs", 0, () -> lastWay.example(0));
        Recorded firstWay = Recorded.with(Check.i(12, 1, 0, 0), Check.i(8, 0, 1, 24));
        ways("x below y comes last but one", firstWay, "1 1 0 1 2:00", "0 1 0 0 2:01",
                "0 0 2 0 1:1");
        check.answers("a less x", 1, () -> firstWay.example(0));
    }

    private static void exampleOfTheLargestInputs() {
        exampleOf(15, 15, 255);
        exampleOf(15, 0, 240);
        exampleOf(0, 15, 15);
        exampleOf(1, 15, 31);
        exampleOf(0, 0, 0);
    }

    /** Fails for these inputs of width 4 alone. */
    private static void exampleOf(int x, int y, int want) {
        Recorded finder = Recorded.with(Check.i(0, 2, x, 0), Check.i(5, 2, 2, 0),
                Check.i(0, 3, y, 0), Check.i(5, 3, 3, 1), Check.i(4, 2, 2, 3),
                Check.i(12, 2, 0, 0));
        finder.width(4);
        finder.explore();
        check.answers("16 times " + x + " + " + y, want, () -> finder.example(2));
        check.answers("the least of the others", want == 0 ? 1 : 0, () -> finder.example(0));
    }

    private static void exampleRefusesOutcomes() {
        check.by("IllegalArgumentException: another outcome.");
        Recorded finder = Programs.allOutcomes();
        finder.explore();
        for (int wrong : new int[] {-1, 4, MIN, MAX}) {
            check.refuses("example(" + wrong + ")", Check.ARGUMENT, finder,
                    () -> finder.example(wrong));
        }
    }

    private static void exampleRefusesWhatNoneHas() {
        check.by("NoSuchElementException: none has.");
        Recorded finder = Programs.allOutcomes();
        finder.width(1);
        finder.explore();
        check.refuses("late", Check.MISSING, finder, () -> finder.example(3));
        finder.run(1, 1);
        Recorded late = Recorded.with(Check.i(10, 0, 0, 0));
        late.explore();
        check.answers("late", 0, () -> late.example(3));
        for (int outcome = 0; outcome < 3; outcome++) {
            int asked = outcome;
            check.refuses("example(" + outcome + ")", Check.MISSING, late,
                    () -> late.example(asked));
        }
    }

    private static void coveredByTheResults() {
        check.by("The set of the instructions that the runs of the least inputs of the results "
                + "did (bit k for instruction k");
        Recorded finder = Recorded.with(Check.i(0, 2, 9, 0), Check.i(9, 0, 2, 3),
                Check.i(10, 0, 0, 4), Check.i(0, 3, 1, 0), Check.i(13, 0, 0, 0),
                Check.i(0, 0, 0, 0));
        check.due("covered before", 0, finder.covered());
        finder.run(0, 0);
        check.due("covered by a run alone", 0, finder.covered());
        finder.explore();
        check.due("covered in width 3", 0b010111, finder.covered());
        finder.width(4);
        finder.explore();
        check.due("covered in width 4", 0b011111, finder.covered());
        finder.width(3);
        finder.explore();
        check.due("covered in width 3 again", 0b010111, finder.covered());
    }

    private static void coveredNone() {
        Recorded finder = new Recorded();
        check.due("covered at first", 0, finder.covered());
        finder.explore();
        check.due("covered of no instructions", 0, finder.covered());
        finder.instr(13, 0, 0, 0);
        check.due("covered of one that was not explored", 0, finder.covered());
        finder.explore();
        check.due("covered of one", 1, finder.covered());
    }

    private static void coveredAll() {
        Recorded finder = new Recorded();
        finder.fill(24, Check.i(0, 0, 0, 0));
        finder.explore();
        check.due("covered of 24", 0xFFFFFF, finder.covered());
        Recorded last = Recorded.with(Check.i(10, 0, 0, 23));
        last.fill(23, Check.i(13, 0, 0, 0));
        last.explore();
        check.due("covered of the first and the last", 0x800001, last.covered());
    }

    private static void coveredByTheProgramAsItWas() {
        check.by("by the program as it was when it was explored");
        Recorded finder = Recorded.with(Check.i(9, 0, 1, 2), Check.i(13, 0, 0, 0),
                Check.i(13, 1, 0, 0), Check.i(13, 2, 0, 0));
        finder.explore();
        finder.width(1);
        finder.undo();
        finder.undo();
        check.due("covered behind undo", 0b0111, finder.covered());
        finder.undo();
        finder.undo();
        check.due("covered behind undo of all", 0b0111, finder.covered());
        finder.add(Check.i(10, 0, 0, 3), Check.i(0, 0, 0, 0), Check.i(0, 0, 0, 0),
                Check.i(0, 0, 0, 0));
        check.due("covered behind other instructions", 0b0111, finder.covered());
        finder.explore();
        check.due("covered by these", 0b1001, finder.covered());
    }
}
