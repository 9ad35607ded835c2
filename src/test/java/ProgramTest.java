/** Promises 1 to 4 and 13: a new object, instr, undo, width, count. */
public final class ProgramTest {
    private static final int MIN = Integer.MIN_VALUE;
    private static final int MAX = Integer.MAX_VALUE;
    private static final Check check = new Check();

    public static void main(String[] args) {
        newObject();
        instrCounts();
        instrTakesEdges();
        instrRefusesOps();
        instrRefusesRegisters();
        instrRefusesNumbers();
        instrRefusesMoreThan24();
        undo();
        undoneInstructionsAreGone();
        width();
        count();
        check.end();
    }

    private static void newObject() {
        WayFinder finder = new WayFinder();
        check.due("new: instructions", 0, finder.count(0));
        check.due("new: width", 3, finder.count(1));
        check.due("new: ways", 0, finder.count(2));
        check.due("new: runs", 0, finder.count(3));
        check.due("new: covered", 0, finder.covered());
        check.refuses("new: undo", Check.MISSING, finder, finder::undo);
        check.refuses("new: last", Check.MISSING, finder, () -> finder.last(0));
        check.refuses("new: way", Check.MISSING, finder, () -> finder.way(0, 0));
        check.refuses("new: decision", Check.MISSING, finder, () -> finder.decision(0, 0));
        check.refuses("new: match", Check.MISSING, finder, () -> finder.match(0, 0));
        check.refuses("new: example", Check.MISSING, finder, () -> finder.example(0));
        objectsAreApart();
    }

    private static void objectsAreApart() {
        WayFinder untouched = new WayFinder();
        String before = Check.stateOf(untouched);
        WayFinder used = Check.with(Check.i(12, 1, 0, 0));
        used.width(4);
        used.explore();
        used.run(1, 1);
        check.due("an object beside one in use", before, Check.stateOf(untouched));
        check.due("an object made behind it", before, Check.stateOf(new WayFinder()));
    }

    private static void instrCounts() {
        WayFinder finder = new WayFinder();
        for (int op = 0; op <= 13; op++) {
            check.due("instr op " + op, op + 1, finder.instr(op, 0, 0, 0));
        }
    }

    private static void instrTakesEdges() {
        takes(0, 3, 255, MAX);
        takes(0, 3, 0, MIN);
        for (int op = 1; op <= 6; op++) {
            takes(op, 3, 3, 3);
        }
        takes(7, 3, 3, 7);
        takes(8, 3, 3, 24);
        takes(9, 3, 3, 24);
        takes(10, MIN, MAX, 24);
        takes(10, MAX, MIN, 0);
        takes(11, 3, 3, 3);
        takes(12, 3, MIN, MAX);
        takes(13, 3, MAX, MIN);
    }

    private static void takes(int op, int a, int b, int c) {
        WayFinder finder = new WayFinder();
        check.due(text(op, a, b, c), "1", Check.answerOf(() -> finder.instr(op, a, b, c)));
        // What an op has no use for must not trouble its run either.
        check.due("run behind " + text(op, a, b, c), "true",
                "" + Check.answerOf(() -> finder.run(1, 1)).matches("[0-3]"));
    }

    private static void instrRefusesOps() {
        refuses(-1, 0, 0, 0);
        refuses(14, 0, 0, 0);
        refuses(MIN, 0, 0, 0);
        refuses(MAX, 0, 0, 0);
    }

    private static void instrRefusesRegisters() {
        for (int wrong : new int[] {-1, 4, MIN, MAX}) {
            for (int op = 0; op <= 13; op++) {
                if (op != 10) {
                    refuses(op, wrong, 0, 0);
                }
                if (op >= 1 && op <= 9 || op == 11) {
                    refuses(op, 0, wrong, 0);
                }
                if (op >= 1 && op <= 6 || op == 11) {
                    refuses(op, 0, 0, wrong);
                }
            }
        }
    }

    private static void instrRefusesNumbers() {
        for (int wrong : new int[] {-1, 256, MIN, MAX}) {
            refuses(0, 0, wrong, 0);
        }
        for (int wrong : new int[] {-1, 8, MIN, MAX}) {
            refuses(7, 0, 0, wrong);
        }
        for (int wrong : new int[] {-1, 25, MIN, MAX}) {
            refuses(8, 0, 0, wrong);
            refuses(9, 0, 0, wrong);
            refuses(10, 0, 0, wrong);
        }
    }

    private static void refuses(int op, int a, int b, int c) {
        WayFinder finder = new WayFinder();
        check.refuses(text(op, a, b, c), Check.ARGUMENT, finder, () -> finder.instr(op, a, b, c));
    }

    private static String text(int op, int a, int b, int c) {
        return "instr(" + op + ", " + a + ", " + b + ", " + c + ")";
    }

    private static void instrRefusesMoreThan24() {
        WayFinder finder = new WayFinder();
        for (int k = 1; k <= 24; k++) {
            check.due("instr number " + k, k, finder.instr(0, 0, k, 0));
        }
        finder.explore();
        finder.run(1, 1);
        check.refuses("instr number 25", Check.STATE, finder, () -> finder.instr(0, 0, 0, 0));
        check.refuses("a wrong one of number 25", Check.ARGUMENT, finder,
                () -> finder.instr(14, 0, 0, 0));
        finder.run(1, 1);
        check.due("the last of 24 is done", 24, finder.last(0));
        check.due("undo from 24", 23, finder.undo());
        check.due("instr behind undo", 24, finder.instr(13, 1, 0, 0));
    }

    private static void undo() {
        WayFinder finder = Check.with(Check.i(0, 0, 1, 0), Check.i(0, 0, 2, 0));
        check.due("undo of two", 1, finder.undo());
        check.due("undo of one", 0, finder.undo());
        check.refuses("undo of none", Check.MISSING, finder, finder::undo);
    }

    private static void undoneInstructionsAreGone() {
        WayFinder finder = Check.with(Check.i(0, 0, 9, 0), Check.i(0, 0, 7, 0));
        finder.run(0, 0);
        check.due("before undo", 7, finder.last(0));
        finder.undo();
        finder.run(0, 0);
        check.due("behind undo", 9, finder.last(0));
        check.due("instructions done behind undo", 1, finder.last(1));
        finder.instr(0, 0, 5, 0);
        finder.run(0, 0);
        check.due("another in its place", 5, finder.last(0));
    }

    private static void width() {
        WayFinder finder = new WayFinder();
        check.due("width(4)", 3, finder.width(4));
        check.due("width(1)", 4, finder.width(1));
        check.due("width(2)", 1, finder.width(2));
        check.due("width(2) again", 2, finder.width(2));
        for (int wrong : new int[] {0, 5, -1, MIN, MAX}) {
            check.refuses("width(" + wrong + ")", Check.ARGUMENT, finder, () -> finder.width(wrong));
        }
        check.due("width at the end", 2, finder.count(1));
    }

    private static void count() {
        WayFinder finder = Check.with(Check.i(8, 0, 1, 2), Check.i(13, 0, 0, 0));
        finder.width(2);
        finder.explore();
        finder.run(1, 2);
        finder.run(1, 2);
        finder.run(3, 0);
        check.refuses("run(4, 0)", Check.ARGUMENT, finder, () -> finder.run(4, 0));
        finder.match(1, 1);
        check.due("instructions", 2, finder.count(0));
        check.due("width", 2, finder.count(1));
        check.due("ways", 2, finder.count(2));
        check.due("runs, those of match and explore not among them", 3, finder.count(3));
        for (int wrong : new int[] {-1, 4, MIN, MAX}) {
            check.refuses("count(" + wrong + ")", Check.ARGUMENT, finder, () -> finder.count(wrong));
        }
    }
}
