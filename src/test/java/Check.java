import java.util.NoSuchElementException;
import java.util.function.IntSupplier;

/** Compares answers with those that are due, and prints each that is not. */
final class Check {
    static final Class<?> ARGUMENT = IllegalArgumentException.class;
    static final Class<?> STATE = IllegalStateException.class;
    static final Class<?> MISSING = NoSuchElementException.class;

    private int wrong = 0;

    void due(String what, int want, int got) {
        due(what, Integer.toString(want), Integer.toString(got));
    }

    void due(String what, String want, String got) {
        if (!want.equals(got)) {
            wrong++;
            System.out.println(what + " answered " + got + ", due is " + want);
        }
    }

    /** The call throws exactly this kind, and the object answers all questions as before. */
    void refuses(String what, Class<?> kind, WayFinder finder, IntSupplier call) {
        String before = stateOf(finder);
        due(what, "throws " + kind.getName(), answerOf(call));
        due("the state behind " + what, before, stateOf(finder));
    }

    /** Ends the program with exit code 1 if an answer was not as due. */
    void end() {
        if (wrong != 0) {
            System.out.println(wrong + " answers are not as due");
            System.exit(1);
        }
        System.out.println("all answers are as due");
    }

    static String answerOf(IntSupplier call) {
        try {
            return Integer.toString(call.getAsInt());
        } catch (RuntimeException e) {
            return "throws " + e.getClass().getName();
        }
    }

    /**
     * All that the calls tell that change nothing. These may be more than the 512 calls that the
     * document promises to answer; the program counts no calls, so it answers them all alike.
     */
    static String stateOf(WayFinder finder) {
        StringBuilder text = new StringBuilder();
        for (int what = 0; what < 4; what++) {
            int asked = what;
            text.append(finder.count(asked)).append(' ');
            text.append(answerOf(() -> finder.last(asked))).append(' ');
            text.append(answerOf(() -> finder.example(asked))).append(' ');
        }
        text.append(finder.covered()).append('\n');
        for (int k = 0; k < finder.count(2); k++) {
            text.append(wayOf(finder, k)).append('\n');
        }
        int inputs = 1 << finder.count(1);
        for (int at = 0; at < inputs * inputs; at++) {
            int x = at / inputs;
            int y = at % inputs;
            text.append(answerOf(() -> finder.match(x, y))).append(' ');
        }
        return text.toString();
    }

    /** The five facts of a way and its decisions, such as "1 0 3 24 3:010". */
    static String wayOf(WayFinder finder, int k) {
        StringBuilder text = new StringBuilder();
        for (int what = 0; what < 5; what++) {
            text.append(finder.way(k, what)).append(what < 4 ? ' ' : ':');
        }
        for (int j = 0; j < finder.way(k, 4); j++) {
            text.append(finder.decision(k, j));
        }
        return text.toString();
    }

    /** A new object with the instructions of rows of four numbers. */
    static WayFinder with(int[]... instructions) {
        WayFinder finder = new WayFinder();
        add(finder, instructions);
        return finder;
    }

    static void add(WayFinder finder, int[]... instructions) {
        for (int[] i : instructions) {
            finder.instr(i[0], i[1], i[2], i[3]);
        }
    }

    static int[] i(int op, int a, int b, int c) {
        return new int[] {op, a, b, c};
    }
}
