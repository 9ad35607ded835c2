import java.util.ArrayList;
import java.util.List;
import java.util.function.ToIntFunction;

/**
 * A WayFinder that keeps the calls made on it, so that others can be brought to its state and asked
 * in its place: the document promises nothing about an object behind its 512th call.
 */
final class Recorded {
    static final int MOST_CALLS = 512;

    private final WayFinder finder = new WayFinder();
    private final List<ToIntFunction<WayFinder>> calls = new ArrayList<>();

    /** A new object with these instructions, each of four numbers. */
    static Recorded with(int[]... instructions) {
        Recorded recorded = new Recorded();
        recorded.add(instructions);
        return recorded;
    }

    void add(int[]... instructions) {
        for (int[] i : instructions) {
            instr(i[0], i[1], i[2], i[3]);
        }
    }

    /** Adds the same instruction so many times. */
    void fill(int times, int[] instruction) {
        for (int n = 0; n < times; n++) {
            add(instruction);
        }
    }

    /** Another one behind the same calls. */
    Recorded copy() {
        Recorded copy = new Recorded();
        for (ToIntFunction<WayFinder> call : calls) {
            Check.answerOf(() -> copy.call(call));
        }
        return copy;
    }

    int callsLeft() {
        return MOST_CALLS - calls.size();
    }

    int instr(int op, int a, int b, int c) {
        return call(finder -> finder.instr(op, a, b, c));
    }

    int undo() {
        return call(WayFinder::undo);
    }

    int width(int bits) {
        return call(finder -> finder.width(bits));
    }

    int run(int x, int y) {
        return call(finder -> finder.run(x, y));
    }

    int last(int what) {
        return call(finder -> finder.last(what));
    }

    int explore() {
        return call(WayFinder::explore);
    }

    int way(int k, int what) {
        return call(finder -> finder.way(k, what));
    }

    int decision(int k, int j) {
        return call(finder -> finder.decision(k, j));
    }

    int match(int x, int y) {
        return call(finder -> finder.match(x, y));
    }

    int example(int outcome) {
        return call(finder -> finder.example(outcome));
    }

    int covered() {
        return call(WayFinder::covered);
    }

    int count(int what) {
        return call(finder -> finder.count(what));
    }

    private int call(ToIntFunction<WayFinder> call) {
        if (callsLeft() == 0) {
            throw new AssertionError("a test makes more calls than are promised to be answered");
        }
        calls.add(call);
        return call.applyAsInt(finder);
    }
}
