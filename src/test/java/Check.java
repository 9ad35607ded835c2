import java.util.NoSuchElementException;
import java.util.function.IntSupplier;

/** Compares answers with those that are due, and prints each that is not. */
final class Check {
    static final Class<?> ARGUMENT = IllegalArgumentException.class;
    static final Class<?> STATE = IllegalStateException.class;
    static final Class<?> MISSING = NoSuchElementException.class;

    private int wrong = 0;
    private String sentence = "";

    /**
     * Tells which sentence of the document the answers from here on are due by; " .. " stands for
     * words left out.
     */
    void by(String sentence) {
        this.sentence = "\"" + sentence + "\": ";
    }

    void due(String what, int want, int got) {
        due(what, Integer.toString(want), Integer.toString(got));
    }

    void due(String what, String want, String got) {
        if (!want.equals(got)) {
            wrong++;
            System.out.println(sentence + what + " answered " + got + ", due is " + want);
        }
    }

    /** The call answers this; if it throws, that is printed and the test goes on. */
    void answers(String what, int want, IntSupplier call) {
        due(what, Integer.toString(want), answerOf(call));
    }

    /** Runs, and compares the outcome and the three answers of last. */
    void runs(String what, Recorded finder, int x, int y, int... want) {
        answers(what + ": outcome", want[0], () -> finder.run(x, y));
        for (int n = 0; n < 3; n++) {
            int asked = n;
            answers(what + ": last(" + n + ")", want[n + 1], () -> finder.last(asked));
        }
    }

    /** The call throws exactly this kind, and the object tells all that it told before. */
    void refuses(String what, Class<?> kind, Recorded finder, IntSupplier call) {
        String before = State.of(finder);
        due(what, "throws " + kind.getName(), answerOf(call));
        due("the state behind " + what, before, State.of(finder));
    }

    /** Ends the program with exit code 1 if an answer was not as due. */
    void end() {
        if (wrong != 0) {
            System.out.println(wrong + " answers are not as due");
            System.exit(1);
        }
        System.out.println("all answers are as due");
    }

    static String answerOf(IntSupplier call) {
        try {
            return Integer.toString(call.getAsInt());
        } catch (RuntimeException e) {
            return "throws " + e.getClass().getName();
        }
    }

    static int[] i(int op, int a, int b, int c) {
        return new int[] {op, a, b, c};
    }
}
