/** Promises 5 and 6, and the terms of a run: run, last. */
public final class RunTest {
    private static final int RETURNED = 0;
    private static final int CRASHED = 1;
    private static final int FAILED = 2;
    private static final int LATE = 3;
    private static final Check check = new Check();

    public static void main(String[] args) {
        emptyProgram();
        arithmetic();
        lowestEightBits();
        branches();
        goes();
        divides();
        claims();
        returns();
        late();
        fortyInstructionsAreNotLate();
        registersBegin();
        inputsOutOfRange();
        last();
        lastIsOfRunAlone();
        check.end();
    }

    /** Runs and compares the outcome and all three answers of last. */
    private static void runs(String name, WayFinder finder, int x, int y, int... want) {
        check.due(name + ": outcome", want[0], finder.run(x, y));
        for (int what = 0; what < 3; what++) {
            check.due(name + ": last(" + what + ")", want[what + 1], finder.last(what));
        }
    }

    private static void emptyProgram() {
        runs("no instructions", new WayFinder(), 5, 2, RETURNED, 5, 0, 0);
    }

    private static void arithmetic() {
        int[] want = {7, 3, 0, 7, 7, 10};
        for (int op = 1; op <= 6; op++) {
            WayFinder finder = Check.with(Check.i(op, 2, 0, 1), Check.i(13, 2, 0, 0));
            runs("op " + op + " of 5 and 2", finder, 5, 2, RETURNED, want[op - 1], 2, 0);
        }
        int[] others = {13, 1, 6, 7, 1, 42};
        for (int op = 1; op <= 6; op++) {
            WayFinder finder = Check.with(Check.i(op, 0, 0, 1));
            runs("op " + op + " of 7 and 6", finder, 7, 6, RETURNED, others[op - 1], 1, 0);
        }
        for (int c = 0; c <= 7; c++) {
            WayFinder finder = Check.with(Check.i(0, 2, 255, 9), Check.i(7, 3, 2, c),
                    Check.i(13, 3, 0, 0));
            runs("255 divided by 2 to the power " + c, finder, 0, 0, RETURNED, 255 >> c, 3, 0);
        }
    }

    private static void lowestEightBits() {
        WayFinder sum = Check.with(Check.i(0, 2, 255, 0), Check.i(1, 2, 2, 0), Check.i(13, 2, 0, 0));
        runs("255 + 3", sum, 3, 0, RETURNED, 2, 3, 0);
        runs("255 + 0", sum, 0, 0, RETURNED, 255, 3, 0);
        WayFinder difference = Check.with(Check.i(2, 2, 0, 1), Check.i(13, 2, 0, 0));
        runs("0 - 1", difference, 0, 1, RETURNED, 255, 2, 0);
        runs("2 - 7", difference, 2, 7, RETURNED, 251, 2, 0);
        WayFinder product = Check.with(Check.i(0, 2, 255, 0), Check.i(6, 3, 2, 2),
                Check.i(6, 2, 2, 0), Check.i(1, 0, 2, 3));
        runs("255 times 255 and 255 times 7", product, 7, 0, RETURNED, 250, 4, 0);
    }

    private static void branches() {
        WayFinder less = Check.with(Check.i(8, 0, 1, 2), Check.i(13, 3, 0, 0), Check.i(13, 1, 0, 0));
        runs("1 less than 2", less, 1, 2, RETURNED, 2, 2, 1);
        runs("2 less than 2", less, 2, 2, RETURNED, 0, 2, 1);
        runs("3 less than 2", less, 3, 2, RETURNED, 0, 2, 1);
        WayFinder equal = Check.with(Check.i(9, 0, 1, 2), Check.i(13, 3, 0, 0), Check.i(13, 1, 0, 0));
        runs("1 equal to 2", equal, 1, 2, RETURNED, 0, 2, 1);
        runs("2 equal to 2", equal, 2, 2, RETURNED, 2, 2, 1);
        runs("3 equal to 2", equal, 3, 2, RETURNED, 0, 2, 1);
        WayFinder large = Check.with(Check.i(2, 2, 2, 0), Check.i(8, 1, 2, 3), Check.i(13, 3, 0, 0));
        runs("255 is no number below 0", large, 1, 0, RETURNED, 1, 2, 1);
    }

    private static void goes() {
        runs("to another", Check.with(Check.i(10, 9, 9, 2), Check.i(13, 3, 0, 0),
                Check.i(13, 1, 0, 0)), 1, 6, RETURNED, 6, 2, 0);
        runs("behind the last", Check.with(Check.i(10, 0, 0, 1)), 4, 6, RETURNED, 4, 1, 0);
        runs("beyond the last", Check.with(Check.i(10, 0, 0, 24)), 4, 6, RETURNED, 4, 1, 0);
        runs("a branch beyond", Check.with(Check.i(9, 2, 3, 24)), 4, 6, RETURNED, 4, 1, 1);
    }

    private static void divides() {
        WayFinder finder = Check.with(Check.i(0, 3, 9, 0), Check.i(11, 2, 0, 1),
                Check.i(13, 2, 0, 0));
        runs("7 / 2", finder, 7, 2, RETURNED, 3, 3, 1);
        runs("0 / 2", finder, 0, 2, RETURNED, 0, 3, 1);
        runs("7 / 0", finder, 7, 0, CRASHED, 1, 2, 1);
        runs("0 / 0", finder, 0, 0, CRASHED, 1, 2, 1);
    }

    private static void claims() {
        WayFinder finder = Check.with(Check.i(12, 0, 9, 9), Check.i(12, 1, -9, -9),
                Check.i(13, 1, 0, 0));
        runs("no claim untrue", finder, 1, 2, RETURNED, 2, 3, 2);
        runs("the first claim untrue", finder, 0, 0, FAILED, 0, 1, 1);
        runs("the second claim untrue", finder, 3, 0, FAILED, 1, 2, 2);
    }

    private static void returns() {
        WayFinder finder = Check.with(Check.i(0, 2, 77, 0), Check.i(13, 2, 0, 0), Check.i(12, 3, 0, 0));
        runs("register 2", finder, 1, 2, RETURNED, 77, 2, 0);
        runs("register 0 behind the last", Check.with(Check.i(0, 0, 99, 0)), 1, 2,
                RETURNED, 99, 1, 0);
    }

    private static void late() {
        runs("one that goes to itself", Check.with(Check.i(10, 0, 0, 0)), 1, 2, LATE, 0, 40, 0);
        WayFinder three = Check.with(Check.i(0, 2, 1, 0), Check.i(9, 0, 0, 2), Check.i(10, 0, 0, 0));
        runs("three that go round", three, 1, 2, LATE, 0, 40, 13);
        WayFinder decisions = Check.with(Check.i(9, 0, 0, 0));
        runs("40 decisions", decisions, 1, 2, LATE, 0, 40, 40);
    }

    /** A loop of three instructions for each of x: x = 12 does 1 + 36 + 1 + 2 = 40 of them. */
    private static void fortyInstructionsAreNotLate() {
        WayFinder finder = Check.with(Check.i(0, 3, 1, 0), Check.i(9, 0, 2, 4),
                Check.i(2, 0, 0, 3), Check.i(10, 0, 0, 1), Check.i(0, 0, 50, 0),
                Check.i(13, 0, 0, 0));
        finder.width(4);
        runs("40 with a return", finder, 12, 0, RETURNED, 50, 40, 13);
        runs("41 with a return", finder, 13, 0, LATE, 3, 40, 13);
        finder.undo();
        runs("39 and behind the last", finder, 12, 0, RETURNED, 50, 39, 13);
        finder.instr(0, 0, 60, 0);
        runs("40 and behind the last", finder, 12, 0, RETURNED, 60, 40, 13);
        finder.instr(0, 0, 70, 0);
        runs("41 and behind the last", finder, 12, 0, LATE, 5, 40, 13);
        finder.undo();
        finder.instr(12, 2, 0, 0);
        runs("a claim would be the 41st", finder, 12, 0, LATE, 5, 40, 13);
        runs("a claim is the 38th", finder, 11, 0, FAILED, 6, 38, 13);
        finder.undo();
        finder.undo();
        finder.instr(11, 0, 0, 2);
        runs("a crash is the 40th", finder, 12, 0, CRASHED, 5, 40, 14);
    }

    private static void registersBegin() {
        WayFinder finder = Check.with(Check.i(1, 0, 0, 2), Check.i(1, 0, 0, 3),
                Check.i(0, 2, 100, 0), Check.i(0, 3, 100, 0), Check.i(0, 1, 100, 0));
        runs("a first run", finder, 6, 2, RETURNED, 6, 5, 0);
        runs("a second run begins anew", finder, 6, 2, RETURNED, 6, 5, 0);
        runs("y is in register 1", Check.with(Check.i(13, 1, 0, 0)), 6, 2, RETURNED, 2, 1, 0);
    }

    private static void inputsOutOfRange() {
        WayFinder finder = Check.with(Check.i(13, 1, 0, 0));
        finder.run(1, 1);
        finder.explore();
        for (int bits = 1; bits <= 4; bits++) {
            finder.width(bits);
            int most = (1 << bits) - 1;
            check.due("the largest inputs", "0", Check.answerOf(() -> finder.run(most, most)));
            for (int wrong : new int[] {-1, most + 1, Integer.MIN_VALUE, Integer.MAX_VALUE}) {
                check.refuses("run(" + wrong + ", 0)", Check.ARGUMENT, finder,
                        () -> finder.run(wrong, 0));
                check.refuses("run(0, " + wrong + ")", Check.ARGUMENT, finder,
                        () -> finder.run(0, wrong));
            }
        }
    }

    private static void last() {
        WayFinder finder = Check.with(Check.i(12, 0, 0, 0));
        for (int what = -1; what <= 3; what++) {
            int asked = what;
            check.refuses("last(" + asked + ") of no run", Check.MISSING, finder,
                    () -> finder.last(asked));
        }
        finder.run(0, 0);
        for (int wrong : new int[] {-1, 3, Integer.MIN_VALUE, Integer.MAX_VALUE}) {
            check.refuses("last(" + wrong + ")", Check.ARGUMENT, finder, () -> finder.last(wrong));
        }
    }

    private static void lastIsOfRunAlone() {
        WayFinder finder = Check.with(Check.i(12, 0, 0, 0), Check.i(12, 1, 0, 0));
        finder.explore();
        finder.match(0, 0);
        check.refuses("last behind explore and match", Check.MISSING, finder, () -> finder.last(0));
        finder.run(3, 0);
        finder.undo();
        finder.undo();
        finder.width(1);
        finder.explore();
        finder.match(0, 0);
        check.due("last(0) stays", 1, finder.last(0));
        check.due("last(1) stays", 2, finder.last(1));
        check.due("last(2) stays", 2, finder.last(2));
    }
}
