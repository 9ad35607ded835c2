import java.util.function.ToIntFunction;

/** All that an object tells, asked of copies of it. */
final class State {
    private static final int OUTCOMES = 4;
    private static final int MOST_CALLS_OF_A_QUESTION = 4;

    private final Recorded asked;
    private final StringBuilder text = new StringBuilder();
    private Recorded copy;

    private State(Recorded asked) {
        this.asked = asked;
        copy = asked.copy();
    }

    /** Everything: numbers, results, and what the program does with all inputs. */
    static String of(Recorded asked) {
        State state = new State(asked);
        for (int what = 0; what < OUTCOMES; what++) {
            int number = what;
            state.tell(finder -> finder.count(number));
            state.tell(finder -> finder.last(number));
        }
        state.tellResults();
        state.tellMatches();
        state.tellRuns();
        state.tell(Recorded::explore);
        Recorded explored = asked.copy();
        Check.answerOf(explored::explore);
        return state.text.append('\n').append(resultsOf(explored)).toString();
    }

    /** The ways with their decisions, the examples, and what is covered. */
    static String resultsOf(Recorded asked) {
        State state = new State(asked);
        state.tellResults();
        return state.text.toString();
    }

    /** The five facts of a way and its decisions, such as "1 0 3 24 3:010". */
    static String wayOf(Recorded asked, int k) {
        State state = new State(asked);
        state.tellWay(k);
        return state.text.toString();
    }

    /** The decisions of a way, such as "010". */
    static String decisionsOf(Recorded asked, int k) {
        State state = new State(asked);
        state.tellDecisions(k);
        return state.text.toString();
    }

    private void tellResults() {
        for (int outcome = 0; outcome < OUTCOMES; outcome++) {
            int number = outcome;
            tell(finder -> finder.example(number));
        }
        tell(Recorded::covered);
        int ways = answer(finder -> finder.count(2));
        for (int k = 0; k < ways; k++) {
            text.append('\n');
            tellWay(k);
        }
    }

    private void tellWay(int k) {
        for (int what = 0; what < 5; what++) {
            text.append(what == 0 ? "" : " ").append(answerOfWay(k, what));
        }
        text.append(':');
        tellDecisions(k);
    }

    private void tellDecisions(int k) {
        int decisions = answerOfWay(k, 4);
        for (int j = 0; j < decisions; j++) {
            int place = j;
            text.append(answer(finder -> finder.decision(k, place)));
        }
    }

    private int answerOfWay(int k, int what) {
        return answer(finder -> finder.way(k, what));
    }

    private void tellMatches() {
        int inputs = 1 << answer(finder -> finder.count(1));
        for (int at = 0; at < inputs * inputs; at++) {
            int x = at / inputs;
            int y = at % inputs;
            tell(finder -> finder.match(x, y));
        }
    }

    /** These runs change the copy, so nothing but other runs is asked of it behind them. */
    private void tellRuns() {
        int inputs = 1 << answer(finder -> finder.count(1));
        for (int at = 0; at < inputs * inputs; at++) {
            int x = at / inputs;
            int y = at % inputs;
            tell(finder -> runOf(finder, x, y));
        }
        copy = asked.copy();
    }

    /** The outcome and the three answers of last as one number. */
    private static int runOf(Recorded finder, int x, int y) {
        int outcome = finder.run(x, y);
        return ((outcome * 256 + finder.last(0)) * 64 + finder.last(1)) * 64 + finder.last(2);
    }

    private void tell(ToIntFunction<Recorded> question) {
        renew();
        text.append(Check.answerOf(() -> question.applyAsInt(copy))).append(' ');
    }

    private int answer(ToIntFunction<Recorded> question) {
        renew();
        return question.applyAsInt(copy);
    }

    private void renew() {
        if (copy.callsLeft() < MOST_CALLS_OF_A_QUESTION) {
            copy = asked.copy();
        }
    }
}
