import java.util.ArrayList;
import java.util.List;
import java.util.function.IntSupplier;
import java.util.function.ToIntFunction;

/** The terms' last sentence: the order of testing, and that a call that throws changes nothing. */
public final class RefusalTest {
    private static final Check check = new Check();

    public static void main(String[] args) {
        instrTestsArgumentsFirst();
        lastTestsRunsFirst();
        wayTestsPlacesFirst();
        matchTestsInputsFirst();
        exampleTestsOutcomesFirst();
        callsThatThrowChangeNothing();
        callsThatThrowBetweenOthers();
        check.end();
    }

    private static Recorded full() {
        Recorded finder = new Recorded();
        finder.fill(24, Check.i(12, 0, 0, 0));
        return finder;
    }

    private static void instrTestsArgumentsFirst() {
        check.by("What is thrown is told in the order of testing");
        Recorded finder = full();
        check.refuses("a right one of number 25", Check.STATE, finder,
                () -> finder.instr(0, 0, 0, 0));
        check.refuses("a wrong op of number 25", Check.ARGUMENT, finder,
                () -> finder.instr(14, 0, 0, 0));
        check.refuses("a wrong a of number 25", Check.ARGUMENT, finder,
                () -> finder.instr(13, 4, 0, 0));
        check.refuses("a wrong b of number 25", Check.ARGUMENT, finder,
                () -> finder.instr(0, 0, 256, 0));
        check.refuses("a wrong c of number 25", Check.ARGUMENT, finder,
                () -> finder.instr(10, 0, 0, 25));
    }

    private static void lastTestsRunsFirst() {
        Recorded finder = full();
        finder.explore();
        for (int wrong : new int[] {-1, 3, Integer.MIN_VALUE, Integer.MAX_VALUE}) {
            check.refuses("a wrong what of no run", Check.MISSING, finder,
                    () -> finder.last(wrong));
        }
        finder.run(0, 0);
        check.refuses("a wrong what of a run", Check.ARGUMENT, finder, () -> finder.last(3));
    }

    private static void wayTestsPlacesFirst() {
        Recorded finder = full();
        check.refuses("a wrong what of no results", Check.MISSING, finder,
                () -> finder.way(0, 5));
        finder.explore();
        for (int wrong : new int[] {-1, 5, Integer.MIN_VALUE, Integer.MAX_VALUE}) {
            check.refuses("a wrong what of no way", Check.MISSING, finder,
                    () -> finder.way(2, wrong));
            check.refuses("a wrong what of no way", Check.MISSING, finder,
                    () -> finder.way(-1, wrong));
            check.refuses("a wrong what of a way", Check.ARGUMENT, finder,
                    () -> finder.way(1, wrong));
        }
    }

    private static void matchTestsInputsFirst() {
        Recorded finder = full();
        check.refuses("a wrong x with no results", Check.ARGUMENT, finder,
                () -> finder.match(8, 0));
        check.refuses("a wrong y with no results", Check.ARGUMENT, finder,
                () -> finder.match(0, -1));
        check.refuses("right inputs with no results", Check.MISSING, finder,
                () -> finder.match(0, 0));
    }

    private static void exampleTestsOutcomesFirst() {
        Recorded finder = full();
        check.refuses("a wrong outcome with no results", Check.ARGUMENT, finder,
                () -> finder.example(4));
        check.refuses("a wrong outcome with no results", Check.ARGUMENT, finder,
                () -> finder.example(-1));
        check.refuses("an outcome with no results", Check.MISSING, finder,
                () -> finder.example(3));
    }

    /** Each throws with every program of 24 instructions that has 1 to 63 ways in width 2. */
    private static List<ToIntFunction<Recorded>> callsThatThrow() {
        List<ToIntFunction<Recorded>> calls = new ArrayList<>();
        calls.add(finder -> finder.instr(0, 0, 0, 0));
        calls.add(finder -> finder.instr(14, 0, 0, 0));
        calls.add(finder -> finder.instr(0, 4, 0, 0));
        calls.add(finder -> finder.width(0));
        calls.add(finder -> finder.width(5));
        calls.add(finder -> finder.run(4, 0));
        calls.add(finder -> finder.run(0, -1));
        calls.add(finder -> finder.last(3));
        calls.add(finder -> finder.way(63, 0));
        calls.add(finder -> finder.way(0, 5));
        calls.add(finder -> finder.decision(63, 0));
        calls.add(finder -> finder.decision(0, 40));
        calls.add(finder -> finder.match(4, 0));
        calls.add(finder -> finder.match(0, -1));
        calls.add(finder -> finder.example(4));
        calls.add(finder -> finder.count(4));
        return calls;
    }

    /** Three programs, each with results, a last run and another width than at first. */
    private static List<Recorded> objects() {
        Recorded none = new Recorded();
        none.fill(24, Check.i(0, 2, 1, 0));
        Recorded outcomes = Programs.allOutcomes();
        outcomes.fill(19, Check.i(12, 3, 0, 0));
        Recorded rounds = Programs.twoRounds();
        List<Recorded> objects = List.of(none, outcomes, rounds);
        for (Recorded finder : objects) {
            finder.explore();
            finder.width(2);
            finder.run(3, 1);
        }
        return objects;
    }

    private static void callsThatThrowChangeNothing() {
        check.by("a call that throws changes nothing");
        for (Recorded finder : objects()) {
            String before = State.of(finder);
            int n = 0;
            for (ToIntFunction<Recorded> call : callsThatThrow()) {
                String answer = Check.answerOf(() -> call.applyAsInt(finder));
                check.due("call " + n + " throws", "true", "" + answer.startsWith("throws"));
                check.due("the state behind call " + n, before, State.of(finder));
                n++;
            }
        }
        refusalsOfOtherStates();
    }

    /** The calls that throw in no state above: undo of none, explore, example and match of none. */
    private static void refusalsOfOtherStates() {
        Recorded empty = new Recorded();
        empty.instr(12, 0, 0, 0);
        empty.explore();
        empty.run(0, 0);
        empty.undo();
        check.refuses("undo of none", Check.MISSING, empty, empty::undo);
        check.refuses("example of none", Check.MISSING, empty, () -> empty.example(3));
        empty.add(Check.i(12, 0, 0, 0), Check.i(12, 0, 0, 0));
        check.refuses("match of none", Check.MISSING, empty, () -> empty.match(1, 0));
        Recorded many = Programs.eightBits();
        many.width(2);
        many.explore();
        many.run(3, 2);
        many.width(4);
        check.refuses("explore of 256 ways", Check.STATE, many, many::explore);
    }

    private static void callsThatThrowBetweenOthers() {
        Recorded plain = between(false);
        Recorded refused = between(true);
        check.due("calls that throw between others", State.of(plain), State.of(refused));
    }

    /** The same calls, with or without some between them that throw. */
    private static Recorded between(boolean refused) {
        Recorded finder = new Recorded();
        throwing(refused, finder::undo, () -> finder.last(0), () -> finder.match(0, 0));
        for (int[] instruction : new int[][] {Check.i(11, 2, 0, 1), Check.i(12, 2, 0, 0),
            Check.i(8, 1, 2, 24), Check.i(13, 2, 0, 0)}) {
            throwing(refused, () -> finder.instr(8, 0, 1, 25), () -> finder.instr(-1, 0, 0, 0));
            finder.add(instruction);
        }
        finder.run(7, 2);
        throwing(refused, () -> finder.run(8, 0), () -> finder.width(5), () -> finder.last(3));
        finder.width(4);
        throwing(refused, () -> finder.run(16, 0), () -> finder.way(0, 0));
        finder.explore();
        throwing(refused, () -> finder.way(64, 0), () -> finder.decision(0, 40),
                () -> finder.example(4), () -> finder.example(3), () -> finder.count(-1));
        finder.run(15, 15);
        throwing(refused, () -> finder.run(0, 16), () -> finder.match(16, 0));
        return finder;
    }

    private static void throwing(boolean done, IntSupplier... calls) {
        for (IntSupplier call : calls) {
            if (done) {
                String answer = Check.answerOf(call);
                check.due("a call between others throws", "true", "" + answer.startsWith("throws"));
            }
        }
    }
}
