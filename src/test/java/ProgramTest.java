/** Promises 1 to 4 and 13: a new object, instr, undo, width, count. */
public final class ProgramTest {
    private static final int MIN = Integer.MIN_VALUE;
    private static final int MAX = Integer.MAX_VALUE;
    private static final Check check = new Check();

    public static void main(String[] args) {
        newObject();
        objectsAreApart();
        the512thCall();
        instrCounts();
        instrRefusesOps();
        instrRefusesRegistersA();
        instrRefusesRegistersB();
        instrRefusesRegistersC();
        instrRefusesNumbers();
        instrRefusesShifts();
        instrRefusesPlaces();
        instrTakesAnythingWithoutUse();
        instrRefusesMoreThan24();
        undoCounts();
        undoRemovesTheLast();
        undoLeavesTheRestAlone();
        undoRefusesNone();
        widthAnswersTheOneBefore();
        widthRefuses();
        widthLeavesTheRestAlone();
        countsInstructions();
        countsWidth();
        countsWays();
        countsRuns();
        countRefuses();
        check.end();
    }

    private static void newObject() {
        check.by("makes an object in the state that the terms give");
        Recorded finder = new Recorded();
        check.due("instructions", 0, finder.count(0));
        check.due("width", 3, finder.count(1));
        check.due("ways", 0, finder.count(2));
        check.due("runs", 0, finder.count(3));
        check.due("covered", 0, finder.covered());
        check.refuses("undo", Check.MISSING, finder, finder::undo);
        check.refuses("last", Check.MISSING, finder, () -> finder.last(0));
        check.refuses("way", Check.MISSING, finder, () -> finder.way(0, 0));
        check.refuses("decision", Check.MISSING, finder, () -> finder.decision(0, 0));
        check.refuses("match", Check.MISSING, finder, () -> finder.match(0, 0));
        for (int outcome = 0; outcome <= 3; outcome++) {
            int asked = outcome;
            check.refuses("example", Check.MISSING, finder, () -> finder.example(asked));
        }
    }

    private static void objectsAreApart() {
        Recorded untouched = new Recorded();
        String before = State.of(untouched);
        Recorded used = Recorded.with(Check.i(12, 1, 0, 0));
        used.width(4);
        used.explore();
        used.run(1, 1);
        check.due("an object beside one in use", before, State.of(untouched));
        check.due("an object made behind it", before, State.of(new Recorded()));
    }

    private static void the512thCall() {
        check.by("An object is used for at most 512 calls after it has been made");
        Recorded finder = new Recorded();
        finder.width(4);
        Programs.addSixBits(finder);
        while (finder.callsLeft() > 3) {
            check.answers("explore", 64, finder::explore);
        }
        check.answers("the 510th call", 0, () -> finder.run(7, 6));
        check.answers("the 511th call", 19, () -> finder.last(1));
        check.answers("the 512th call", 64, finder::explore);
    }

    private static void instrCounts() {
        check.by("Adds an instruction; answers how many there are.");
        Recorded finder = new Recorded();
        for (int op = 0; op <= 13; op++) {
            check.due("instr op " + op, op + 1, finder.instr(op, 0, 0, 0));
        }
        Recorded behind = Recorded.with(Check.i(0, 0, 9, 0));
        behind.add(Check.i(7, 0, 0, 1), Check.i(1, 0, 0, 0));
        check.runs("each behind the others", behind, 0, 0, 0, 8, 3, 0);
    }

    private static void instrRefusesOps() {
        check.by("IllegalArgumentException: op not 0 .. 13");
        takes(0, 0, 0, 0);
        takes(13, 0, 0, 0);
        refuses(-1, 0, 0, 0);
        refuses(14, 0, 0, 0);
        refuses(MIN, 0, 0, 0);
        refuses(MAX, 0, 0, 0);
        // A number that looks like an op to a narrower type.
        refuses(256, 0, 0, 0);
    }

    private static void instrRefusesRegistersA() {
        check.by("a register (a for all but 10; ..) not 0 .. 3");
        for (int op = 0; op <= 13; op++) {
            if (op != 10) {
                takes(op, 0, 1, 1);
                takes(op, 3, 1, 1);
                for (int wrong : new int[] {-1, 4, MIN, MAX}) {
                    refuses(op, wrong, 1, 1);
                }
            }
        }
    }

    private static void instrRefusesRegistersB() {
        check.by("a register (.. b for 1 to 9 and 11; ..) not 0 .. 3");
        for (int op : new int[] {1, 2, 3, 4, 5, 6, 7, 8, 9, 11}) {
            takes(op, 1, 0, 1);
            takes(op, 1, 3, 1);
            for (int wrong : new int[] {-1, 4, MIN, MAX}) {
                refuses(op, 1, wrong, 1);
            }
        }
    }

    private static void instrRefusesRegistersC() {
        check.by("a register (.. c for 1 to 6 and 11) not 0 .. 3");
        for (int op : new int[] {1, 2, 3, 4, 5, 6, 11}) {
            takes(op, 1, 1, 0);
            takes(op, 1, 1, 3);
            for (int wrong : new int[] {-1, 4, MIN, MAX}) {
                refuses(op, 1, 1, wrong);
            }
        }
    }

    private static void instrRefusesNumbers() {
        check.by("b not 0 .. 255 (0)");
        takes(0, 1, 0, 1);
        takes(0, 1, 4, 1);
        takes(0, 1, 255, 1);
        for (int wrong : new int[] {-1, 256, MIN, MAX}) {
            refuses(0, 1, wrong, 1);
        }
    }

    private static void instrRefusesShifts() {
        check.by("c not 0 .. 7 (7)");
        takes(7, 1, 1, 0);
        takes(7, 1, 1, 4);
        takes(7, 1, 1, 7);
        for (int wrong : new int[] {-1, 8, MIN, MAX}) {
            refuses(7, 1, 1, wrong);
        }
    }

    private static void instrRefusesPlaces() {
        check.by("or 0 .. 24 (8 to 10)");
        for (int op = 8; op <= 10; op++) {
            takes(op, 1, 1, 0);
            takes(op, 1, 1, 23);
            takes(op, 1, 1, 24);
            for (int wrong : new int[] {-1, 25, MIN, MAX}) {
                refuses(op, 1, 1, wrong);
            }
        }
    }

    private static void instrTakesAnythingWithoutUse() {
        check.by("What an op has no use for may be anything.");
        for (int any : new int[] {-1, 4, 25, 256, MIN, MAX}) {
            takes(0, 1, 1, any);
            takes(10, any, 1, 1);
            takes(10, 1, any, 1);
            takes(10, any, any, 1);
            takes(12, 1, any, 1);
            takes(12, 1, 1, any);
            takes(13, 1, any, 1);
            takes(13, 1, 1, any);
        }
    }

    private static void takes(int op, int a, int b, int c) {
        Recorded finder = new Recorded();
        check.answers(text(op, a, b, c), 1, () -> finder.instr(op, a, b, c));
        check.due(text(op, a, b, c) + ": count(0)", 1, finder.count(0));
        // It must not trouble a run either.
        String outcome = Check.answerOf(() -> finder.run(1, 1));
        check.due("a run behind " + text(op, a, b, c), "true", "" + outcome.matches("[0-3]"));
    }

    private static void refuses(int op, int a, int b, int c) {
        Recorded finder = Recorded.with(Check.i(8, 0, 1, 24));
        check.refuses(text(op, a, b, c), Check.ARGUMENT, finder, () -> finder.instr(op, a, b, c));
        check.due("instr behind it", 2, finder.instr(13, 0, 0, 0));
    }

    private static String text(int op, int a, int b, int c) {
        return "instr(" + op + ", " + a + ", " + b + ", " + c + ")";
    }

    private static void instrRefusesMoreThan24() {
        check.by("IllegalStateException: 24 are there.");
        Recorded finder = new Recorded();
        for (int k = 1; k <= 24; k++) {
            check.due("instr number " + k, k, finder.instr(0, 0, k, 0));
        }
        finder.explore();
        finder.run(1, 1);
        for (int op = 0; op <= 13; op++) {
            int wanted = op;
            check.refuses("instr number 25", Check.STATE, finder,
                    () -> finder.instr(wanted, 0, 0, 0));
        }
        check.runs("the last of 24 is done", finder, 1, 1, 0, 24, 24, 0);
        check.due("undo from 24", 23, finder.undo());
        check.due("instr behind undo", 24, finder.instr(13, 1, 0, 0));
        check.refuses("instr number 25 again", Check.STATE, finder,
                () -> finder.instr(0, 0, 0, 0));
    }

    private static void undoCounts() {
        check.by("Removes the last instruction; answers how many there are then.");
        Recorded finder = new Recorded();
        finder.fill(24, Check.i(0, 0, 1, 0));
        for (int k = 23; k >= 0; k--) {
            check.due("undo", k, finder.undo());
        }
        check.due("instr behind them", 1, finder.instr(0, 0, 1, 0));
    }

    private static void undoRemovesTheLast() {
        Recorded finder = Recorded.with(Check.i(0, 0, 9, 0), Check.i(0, 0, 7, 0));
        check.runs("before undo", finder, 0, 0, 0, 7, 2, 0);
        finder.undo();
        check.runs("behind undo", finder, 0, 0, 0, 9, 1, 0);
        finder.instr(1, 0, 0, 0);
        check.runs("another in its place", finder, 0, 0, 0, 18, 2, 0);
        finder.undo();
        finder.undo();
        check.runs("behind undo of all", finder, 5, 0, 0, 5, 0, 0);
    }

    private static void undoLeavesTheRestAlone() {
        Recorded finder = Recorded.with(Check.i(12, 0, 0, 0), Check.i(13, 1, 0, 0));
        finder.explore();
        finder.run(0, 1);
        String results = State.resultsOf(finder);
        finder.undo();
        finder.undo();
        check.due("results behind undo", results, State.resultsOf(finder));
        check.due("last(1) behind undo", 1, finder.last(1));
        check.due("count(3) behind undo", 1, finder.count(3));
        check.due("count(1) behind undo", 3, finder.count(1));
    }

    private static void undoRefusesNone() {
        check.by("NoSuchElementException: there is none.");
        Recorded finder = new Recorded();
        check.refuses("undo at first", Check.MISSING, finder, finder::undo);
        finder.instr(13, 1, 0, 0);
        check.due("undo of one", 0, finder.undo());
        check.refuses("undo behind it", Check.MISSING, finder, finder::undo);
        check.refuses("undo once more", Check.MISSING, finder, finder::undo);
        check.due("instr behind it", 1, finder.instr(13, 1, 0, 0));
    }

    private static void widthAnswersTheOneBefore() {
        check.by("Sets the WIDTH; answers the one before.");
        Recorded finder = new Recorded();
        check.due("width(4)", 3, finder.width(4));
        check.due("width(1)", 4, finder.width(1));
        check.due("width(2)", 1, finder.width(2));
        check.due("width(2) again", 2, finder.width(2));
        check.due("width(3)", 2, finder.width(3));
        check.due("width(1)", 3, finder.width(1));
    }

    private static void widthRefuses() {
        check.by("IllegalArgumentException: not 1 .. 4.");
        for (int bits = 1; bits <= 4; bits++) {
            Recorded finder = Recorded.with(Check.i(8, 0, 1, 24));
            finder.explore();
            finder.width(bits);
            for (int wrong : new int[] {0, 5, -1, 16, MIN, MAX}) {
                check.refuses("width(" + wrong + ")", Check.ARGUMENT, finder,
                        () -> finder.width(wrong));
            }
            check.due("the width that stays", bits, finder.width(3));
        }
    }

    private static void widthLeavesTheRestAlone() {
        Recorded finder = Recorded.with(Check.i(8, 0, 1, 24));
        finder.width(4);
        finder.explore();
        finder.run(15, 14);
        String results = State.resultsOf(finder);
        finder.width(1);
        check.due("results behind width", results, State.resultsOf(finder));
        check.due("last(0) behind width", 15, finder.last(0));
        check.due("count(0) behind width", 1, finder.count(0));
    }

    private static void countsInstructions() {
        check.by("Instructions (0)");
        Recorded finder = new Recorded();
        for (int k = 0; k <= 24; k++) {
            check.due("count(0)", k, finder.count(0));
            if (k < 24) {
                finder.instr(8, 0, 1, 24);
            }
        }
        check.refuses("instr number 25", Check.STATE, finder, () -> finder.instr(8, 0, 1, 24));
        check.due("count(0) behind it", 24, finder.count(0));
        finder.undo();
        check.due("count(0) behind undo", 23, finder.count(0));
    }

    private static void countsWidth() {
        check.by("WIDTH (1)");
        Recorded finder = new Recorded();
        check.due("count(1) at first", 3, finder.count(1));
        for (int bits = 1; bits <= 4; bits++) {
            finder.width(bits);
            check.due("count(1)", bits, finder.count(1));
        }
    }

    private static void countsWays() {
        check.by("ways among the results (2)");
        Recorded finder = Recorded.with(Check.i(8, 0, 1, 2), Check.i(12, 1, 0, 0));
        check.due("count(2) at first", 0, finder.count(2));
        finder.run(1, 1);
        check.due("count(2) behind run", 0, finder.count(2));
        finder.explore();
        check.due("count(2) behind explore", 3, finder.count(2));
        finder.undo();
        check.due("count(2) behind undo", 3, finder.count(2));
        finder.explore();
        check.due("count(2) behind another explore", 2, finder.count(2));
    }

    private static void countsRuns() {
        check.by("runs by run so far (3)");
        Recorded finder = Recorded.with(Check.i(8, 0, 1, 2), Check.i(12, 1, 0, 0));
        for (int n = 0; n < 300; n++) {
            check.due("count(3)", n, finder.copy().count(3));
            finder.run(n % 8, n % 5);
        }
        check.refuses("run(8, 0)", Check.ARGUMENT, finder, () -> finder.run(8, 0));
        finder.explore();
        finder.match(1, 1);
        finder.undo();
        finder.width(1);
        check.due("count(3) behind other calls", 300, finder.count(3));
    }

    private static void countRefuses() {
        check.by("IllegalArgumentException: another number.");
        Recorded finder = Recorded.with(Check.i(8, 0, 1, 2));
        for (int wrong : new int[] {-1, 4, MIN, MAX}) {
            check.refuses("count(" + wrong + ")", Check.ARGUMENT, finder,
                    () -> finder.count(wrong));
        }
    }
}
