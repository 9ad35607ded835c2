/** Promises 5 and 6, and the terms of inputs, runs, outcomes and decisions. */
public final class RunTest {
    private static final int RETURNED = 0;
    private static final int CRASHED = 1;
    private static final int FAILED = 2;
    private static final int LATE = 3;
    private static final int MIN = Integer.MIN_VALUE;
    private static final int MAX = Integer.MAX_VALUE;
    private static final Check check = new Check();

    public static void main(String[] args) {
        runAnswersTheOutcome();
        inputsOfEachWidth();
        widthIs3AtFirst();
        inputsAreInRegisters0And1();
        otherRegistersAre0();
        fortyInstructionsAreDone();
        another1IsLate();
        lateInCircles();
        decisionsAreFourOps();
        otherOpsAreNoDecisions();
        fortyDecisions();
        runRefusesInputs();
        lastTellsTheNumberReturned();
        lastTellsTheInstructionDoneLast();
        lastTellsHowMany();
        lastOfNoRun();
        lastRefusesWhat();
        lastIsOfRunAlone();
        lastStays();
        check.end();
    }

    private static void runAnswersTheOutcome() {
        check.by("Runs the program with inputs: its OUTCOME.");
        Recorded finder = Programs.allOutcomes();
        check.runs("7 / 2 is 3", finder, 7, 2, LATE, 3, 40, 39);
        check.runs("5 / 2 is 2", finder, 5, 2, RETURNED, 2, 5, 3);
        check.runs("1 / 2 is 0", finder, 1, 2, FAILED, 1, 2, 2);
        check.runs("1 / 0", finder, 1, 0, CRASHED, 0, 1, 1);
    }

    private static void inputsOfEachWidth() {
        check.by("INPUTS are two numbers x and y, each 0 .. 2 to the power of the WIDTH (..) - 1");
        Recorded finder = Recorded.with(Check.i(1, 0, 0, 1));
        int[] largest = {1, 3, 7, 15};
        for (int bits = 1; bits <= 4; bits++) {
            int most = largest[bits - 1];
            finder.width(bits);
            check.runs("0 and 0 of width " + bits, finder, 0, 0, RETURNED, 0, 1, 0);
            check.runs("the largest x", finder, most, 0, RETURNED, most, 1, 0);
            check.runs("the largest y", finder, 0, most, RETURNED, most, 1, 0);
            check.runs("the largest of both", finder, most, most, RETURNED, 2 * most, 1, 0);
        }
    }

    private static void widthIs3AtFirst() {
        check.by("the WIDTH (1 .. 4, 3 at first)");
        Recorded finder = new Recorded();
        check.runs("7 and 7 at first", finder, 7, 7, RETURNED, 7, 0, 0);
        check.refuses("x is 8 at first", Check.ARGUMENT, finder, () -> finder.run(8, 7));
        check.refuses("y is 8 at first", Check.ARGUMENT, finder, () -> finder.run(7, 8));
    }

    private static void inputsAreInRegisters0And1() {
        check.by("before the run in registers 0 and 1");
        check.runs("register 0", Recorded.with(Check.i(13, 0, 0, 0)), 6, 2, RETURNED, 6, 1, 0);
        check.runs("register 1", Recorded.with(Check.i(13, 1, 0, 0)), 6, 2, RETURNED, 2, 1, 0);
    }

    private static void otherRegistersAre0() {
        check.by("the others are 0");
        for (int register = 2; register <= 3; register++) {
            Recorded finder = Recorded.with(Check.i(1, 1, 1, register),
                    Check.i(0, register, 255, 0), Check.i(13, 1, 0, 0));
            check.runs("register " + register, finder, 6, 2, RETURNED, 2, 3, 0);
            check.runs("behind a run that set it", finder, 6, 2, RETURNED, 2, 3, 0);
            finder.explore();
            finder.match(7, 7);
            check.runs("behind explore and match", finder, 6, 2, RETURNED, 2, 3, 0);
        }
    }

    /** Goes round x times, which with x = 12 does 38 instructions, 13 decisions among them. */
    private static Recorded after38(int[]... tail) {
        Recorded finder = Recorded.with(Check.i(0, 3, 1, 0), Check.i(9, 0, 2, 4),
                Check.i(2, 0, 0, 3), Check.i(10, 0, 0, 1));
        finder.width(4);
        finder.add(tail);
        return finder;
    }

    private static void ends(String name, Recorded finder, int... want) {
        check.runs(name, finder, 12, 0, want);
    }

    private static void fortyInstructionsAreDone() {
        check.by("A RUN does at most 40 instructions");
        int[] set = Check.i(0, 0, 50, 0);
        int[] setAgain = Check.i(0, 0, 60, 0);
        ends("38", after38(), RETURNED, 0, 38, 13);
        ends("39", after38(set), RETURNED, 50, 39, 13);
        ends("40", after38(set, setAgain), RETURNED, 60, 40, 13);
        ends("a return is the 40th", after38(set, Check.i(13, 3, 0, 0)), RETURNED, 1, 40, 13);
        ends("a crash is the 40th", after38(set, Check.i(11, 0, 0, 2)), CRASHED, 5, 40, 14);
        ends("a failure is the 40th", after38(set, Check.i(12, 2, 0, 0)), FAILED, 5, 40, 14);
        ends("the 40th goes behind", after38(set, Check.i(10, 0, 0, 6)), RETURNED, 50, 40, 13);
        ends("the 40th goes beyond", after38(set, Check.i(10, 0, 0, 24)), RETURNED, 50, 40, 13);
        ends("the 40th goes beyond if equal", after38(set, Check.i(9, 2, 2, 24)),
                RETURNED, 50, 40, 14);
        ends("the 40th goes beyond if less", after38(set, Check.i(8, 2, 3, 24)),
                RETURNED, 50, 40, 14);
        ends("the 40th does not go and is the last", after38(set, Check.i(8, 3, 2, 0)),
                RETURNED, 50, 40, 14);
    }

    private static void another1IsLate() {
        check.by("if another one would be done, it is LATE");
        int[] set = Check.i(0, 0, 50, 0);
        for (int op = 0; op <= 13; op++) {
            ends("the 41st is of op " + op, after38(set, set, Check.i(op, 2, 2, 2)),
                    LATE, 5, 40, 13);
        }
        ends("the 40th goes back", after38(set, Check.i(10, 0, 0, 0)), LATE, 5, 40, 13);
        ends("the 40th goes to itself", after38(set, Check.i(10, 0, 0, 5)), LATE, 5, 40, 13);
        ends("the 40th goes to the last", after38(set, Check.i(9, 2, 2, 6), set),
                LATE, 5, 40, 14);
        ends("the 40th does not go", after38(set, Check.i(8, 2, 2, 24), set), LATE, 5, 40, 14);
    }

    private static void lateInCircles() {
        check.runs("one that goes to itself", Recorded.with(Check.i(10, 0, 0, 0)), 1, 2,
                LATE, 0, 40, 0);
        Recorded three = Recorded.with(Check.i(0, 2, 1, 0), Check.i(9, 0, 0, 2),
                Check.i(10, 0, 0, 0));
        check.runs("three that go round", three, 1, 2, LATE, 0, 40, 13);
        Recorded all = new Recorded();
        all.fill(23, Check.i(0, 2, 1, 0));
        all.add(Check.i(10, 0, 0, 0));
        check.runs("24 that go round", all, 1, 2, LATE, 15, 40, 0);
    }

    private static void decisionsAreFourOps() {
        check.by("Each of the instructions 8, 9, 11 and 12 that a run does is a DECISION: "
                + "1 if it goes to c, crashes or fails, else 0.");
        decides("8 goes", Check.i(8, 2, 1, 24), "1");
        decides("8 goes to the next", Check.i(8, 2, 1, 2), "1");
        decides("8 does not go", Check.i(8, 1, 2, 24), "0");
        decides("9 goes", Check.i(9, 2, 3, 24), "1");
        decides("9 goes to the next", Check.i(9, 2, 3, 2), "1");
        decides("9 does not go", Check.i(9, 1, 2, 24), "0");
        decides("11 crashes", Check.i(11, 0, 1, 2), "1");
        decides("11 divides", Check.i(11, 0, 2, 1), "0");
        decides("12 fails", Check.i(12, 2, 0, 0), "1");
        decides("12 does not fail", Check.i(12, 1, 0, 0), "0");
        Recorded leftOut = Recorded.with(Check.i(10, 0, 0, 2), Check.i(12, 0, 0, 0));
        check.runs("a decision that is not done", leftOut, 1, 1, RETURNED, 1, 1, 0);
    }

    /** The decisions of an instruction where register 1 holds 1 and register 2 holds 0. */
    private static void decides(String name, int[] instruction, String want) {
        Recorded finder = Recorded.with(Check.i(0, 1, 1, 0));
        finder.add(instruction);
        finder.explore();
        check.due(name, want, State.decisionsOf(finder, 0));
        finder.run(0, 0);
        check.due(name + ": last(2)", want.length(), finder.last(2));
    }

    private static void otherOpsAreNoDecisions() {
        for (int op : new int[] {0, 1, 2, 3, 4, 5, 6, 7, 10, 13}) {
            Recorded finder = Recorded.with(Check.i(op, 2, 1, 1));
            finder.explore();
            check.due("decisions of op " + op, "", State.decisionsOf(finder, 0));
            finder.run(1, 1);
            check.due("op " + op + ": last(2)", 0, finder.last(2));
        }
    }

    private static void fortyDecisions() {
        check.runs("40 that go", Recorded.with(Check.i(9, 0, 0, 0)), 1, 2, LATE, 0, 40, 40);
        check.runs("40, every other one goes", Recorded.with(Check.i(8, 0, 0, 0),
                Check.i(9, 0, 0, 0)), 1, 2, LATE, 1, 40, 40);
    }

    private static void runRefusesInputs() {
        check.by("IllegalArgumentException: x or y out of range.");
        Recorded finder = Programs.allOutcomes();
        finder.explore();
        finder.run(5, 2);
        for (int bits = 1; bits <= 4; bits++) {
            finder.width(bits);
            for (int wrong : new int[] {-1, 1 << bits, 16, MIN, MAX}) {
                check.refuses("run(" + wrong + ", 0)", Check.ARGUMENT, finder,
                        () -> finder.run(wrong, 0));
                check.refuses("run(0, " + wrong + ")", Check.ARGUMENT, finder,
                        () -> finder.run(0, wrong));
                check.refuses("run(" + wrong + ", " + wrong + ")", Check.ARGUMENT, finder,
                        () -> finder.run(wrong, wrong));
            }
        }
    }

    private static void lastTellsTheNumberReturned() {
        check.by("Of the last run: the number RETURNED .. (0)");
        for (int number : new int[] {0, 39, 255}) {
            Recorded given = Recorded.with(Check.i(0, 3, number, 0), Check.i(13, 3, 0, 0));
            check.runs("13 returns " + number, given, 1, 1, RETURNED, number, 2, 0);
            Recorded left = Recorded.with(Check.i(0, 0, number, 0));
            check.runs("behind the last: " + number, left, 1, 1, RETURNED, number, 1, 0);
        }
    }

    private static void lastTellsTheInstructionDoneLast() {
        check.by("or for another outcome the number of the instruction done last (0)");
        for (int place : new int[] {0, 1, 22, 23}) {
            Recorded crash = at(place, Check.i(11, 2, 2, 2));
            check.runs("crashed", crash, 6, 5, CRASHED, place, place + 1, 1);
            Recorded failure = at(place, Check.i(12, 2, 0, 0));
            check.runs("failed", failure, 6, 5, FAILED, place, place + 1, 1);
            Recorded circle = at(place, Check.i(10, 0, 0, place));
            check.runs("late", circle, 6, 5, LATE, place, 40, 0);
        }
        Recorded back = Recorded.with(Check.i(10, 0, 0, 2), Check.i(12, 2, 0, 0),
                Check.i(10, 0, 0, 1));
        check.runs("failed at a place before others done", back, 6, 5, FAILED, 1, 3, 1);
    }

    private static Recorded at(int place, int[] instruction) {
        Recorded finder = new Recorded();
        finder.fill(place, Check.i(0, 3, 9, 0));
        finder.add(instruction);
        return finder;
    }

    private static void lastTellsHowMany() {
        check.by("instructions done (1), decisions (2)");
        check.runs("none", new Recorded(), 6, 5, RETURNED, 6, 0, 0);
        check.runs("some more than once", after38(), 2, 0, RETURNED, 0, 8, 3);
        check.runs("40 of each", Recorded.with(Check.i(9, 0, 0, 0)), 6, 5, LATE, 0, 40, 40);
    }

    private static void lastOfNoRun() {
        check.by("NoSuchElementException: there was none.");
        Recorded finder = Programs.allOutcomes();
        for (int what = 0; what <= 2; what++) {
            int asked = what;
            check.refuses("last(" + asked + ") of no run", Check.MISSING, finder,
                    () -> finder.last(asked));
        }
        check.refuses("run(8, 0)", Check.ARGUMENT, finder, () -> finder.run(8, 0));
        check.refuses("last(0) behind a refused run", Check.MISSING, finder, () -> finder.last(0));
        finder.run(0, 0);
        check.answers("last(0) behind a run", 0, () -> finder.last(0));
    }

    private static void lastRefusesWhat() {
        check.by("IllegalArgumentException: another what.");
        Recorded finder = Programs.allOutcomes();
        finder.run(5, 2);
        for (int wrong : new int[] {-1, 3, MIN, MAX}) {
            check.refuses("last(" + wrong + ")", Check.ARGUMENT, finder, () -> finder.last(wrong));
        }
    }

    private static void lastIsOfRunAlone() {
        check.by("Of the last run");
        Recorded finder = Recorded.with(Check.i(12, 0, 0, 0), Check.i(12, 1, 0, 0));
        finder.explore();
        finder.match(0, 0);
        check.refuses("last behind explore and match", Check.MISSING, finder, () -> finder.last(0));
        finder.run(0, 3);
        check.runs("the last one of two", finder, 3, 0, FAILED, 1, 2, 2);
    }

    private static void lastStays() {
        Recorded finder = Recorded.with(Check.i(12, 0, 0, 0), Check.i(12, 1, 0, 0));
        finder.run(3, 0);
        finder.undo();
        finder.undo();
        finder.instr(13, 1, 0, 0);
        finder.width(1);
        finder.explore();
        finder.match(0, 0);
        check.refuses("run(3, 0) of width 1", Check.ARGUMENT, finder, () -> finder.run(3, 0));
        check.due("last(0) stays", 1, finder.last(0));
        check.due("last(1) stays", 2, finder.last(1));
        check.due("last(2) stays", 2, finder.last(2));
    }
}
