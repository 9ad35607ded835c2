import java.util.NoSuchElementException;

/**
 * A generator of tests: a program of branches, loops, divisions and claims is run and its ways are
 * followed one by one; for each way that any inputs take the least inputs that do are found, and so
 * are those that make it crash, claim something untrue, or go on for too long.
 */
public final class WayFinder {
    private static final int MOST_INSTRUCTIONS = 24;
    private static final int MOST_STEPS = 40;
    private static final int MOST_WAYS = 64;
    private static final int MOST_BITS = 4;
    private static final int FIRST_WIDTH = 3;
    private static final int REGISTERS = 4;
    private static final int LARGEST_NUMBER = 255;
    private static final int LARGEST_SHIFT = 7;

    private static final int SET = 0;
    private static final int ADD = 1;
    private static final int SUBTRACT = 2;
    private static final int AND = 3;
    private static final int OR = 4;
    private static final int EXCLUSIVE_OR = 5;
    private static final int MULTIPLY = 6;
    private static final int SHIFT = 7;
    private static final int GO_IF_LESS = 8;
    private static final int GO_IF_EQUAL = 9;
    private static final int GO = 10;
    private static final int DIVIDE = 11;
    private static final int CLAIM = 12;
    private static final int GIVE_BACK = 13;

    private static final int RETURNED = 0;
    private static final int CRASHED = 1;
    private static final int FAILED = 2;
    private static final int LATE = 3;

    private final Program program = new Program();
    private final Trace lastTrace = new Trace();
    // match and explore follow the program too, but last tells of none of their runs.
    private final Trace probe = new Trace();
    private Results results = new Results();
    // An exploring that is refused must leave the results alone, so each one fills this set first.
    private Results draft = new Results();
    private int bits = FIRST_WIDTH;
    private int runs = 0;

    /** Makes an object with no instructions, no runs and no results. */
    public WayFinder() {
    }

    /** Adds an instruction; answers how many there are. */
    public int instr(int op, int a, int b, int c)
            throws IllegalArgumentException, IllegalStateException {
        if (!Program.allows(op, a, b, c)) {
            throw new IllegalArgumentException();
        }
        if (program.size == MOST_INSTRUCTIONS) {
            throw new IllegalStateException();
        }
        program.append(op, a, b, c);
        return program.size;
    }

    /** Removes the last instruction; answers how many there are then. */
    public int undo() throws NoSuchElementException {
        if (program.size == 0) {
            throw new NoSuchElementException();
        }
        program.size--;
        return program.size;
    }

    /** Sets the width of the inputs; answers the one before. */
    public int width(int bits) throws IllegalArgumentException {
        if (bits < 1 || bits > MOST_BITS) {
            throw new IllegalArgumentException();
        }
        int before = this.bits;
        this.bits = bits;
        return before;
    }

    /** Runs the program with inputs; answers the outcome. */
    public int run(int x, int y) throws IllegalArgumentException {
        if (!areInputs(x, y)) {
            throw new IllegalArgumentException();
        }
        lastTrace.follow(program, x, y);
        runs++;
        return lastTrace.outcome;
    }

    /** Tells of the last run: its end (0), instructions done (1), decisions (2). */
    public int last(int what) throws NoSuchElementException, IllegalArgumentException {
        if (runs == 0) {
            throw new NoSuchElementException();
        }
        switch (what) {
            case 0: return lastTrace.end;
            case 1: return lastTrace.done;
            case 2: return lastTrace.decisionCount;
            default: throw new IllegalArgumentException();
        }
    }

    /** Finds all ways that any inputs have; answers how many there are. */
    public int explore() throws IllegalStateException {
        if (!fillDraft()) {
            throw new IllegalStateException();
        }
        Results before = results;
        results = draft;
        draft = before;
        return results.size;
    }

    /** Tells of a way: x (0), y (1), outcome (2), end (3), how many decisions (4). */
    public int way(int k, int what) throws NoSuchElementException, IllegalArgumentException {
        if (!results.has(k)) {
            throw new NoSuchElementException();
        }
        Way way = results.ways[k];
        switch (what) {
            case 0: return way.x;
            case 1: return way.y;
            case 2: return way.outcome;
            case 3: return way.end;
            case 4: return way.decisionCount;
            default: throw new IllegalArgumentException();
        }
    }

    /** Answers the decision at the place j of the way at the place k. */
    public int decision(int k, int j) throws NoSuchElementException {
        if (!results.has(k) || j < 0 || j >= results.ways[k].decisionCount) {
            throw new NoSuchElementException();
        }
        return (int) (results.ways[k].decisions >> decisionBit(j)) & 1;
    }

    /** Answers the place of the first way that agrees with all decisions that inputs make now. */
    public int match(int x, int y) throws IllegalArgumentException, NoSuchElementException {
        if (!areInputs(x, y)) {
            throw new IllegalArgumentException();
        }
        probe.follow(program, x, y);
        int k = results.firstAgreeing(probe);
        if (!results.has(k)) {
            throw new NoSuchElementException();
        }
        return k;
    }

    /** Answers the least inputs among the results that have an outcome, as 16 x + y. */
    public int example(int outcome) throws IllegalArgumentException, NoSuchElementException {
        if (outcome < RETURNED || outcome > LATE) {
            throw new IllegalArgumentException();
        }
        int least = results.leastInputs(outcome);
        if (least == Results.NO_INPUTS) {
            throw new NoSuchElementException();
        }
        return least;
    }

    /** Answers the set of the instructions that the least inputs of the results reach. */
    public int covered() {
        return results.visited;
    }

    /** Counts instructions (0), width (1), ways (2), runs (3). */
    public int count(int what) throws IllegalArgumentException {
        switch (what) {
            case 0: return program.size;
            case 1: return bits;
            case 2: return results.size;
            case 3: return runs;
            default: throw new IllegalArgumentException();
        }
    }

    private boolean areInputs(int x, int y) {
        int largest = (1 << bits) - 1;
        return isUpTo(largest, x) && isUpTo(largest, y);
    }

    /** Answers whether all ways found room in the draft. */
    private boolean fillDraft() {
        draft.empty();
        int inputs = 1 << bits;
        // Inputs come in their order, so the first ones seen on a way are its least.
        for (int x = 0; x < inputs; x++) {
            for (int y = 0; y < inputs; y++) {
                probe.follow(program, x, y);
                if (!draft.take(probe, x, y)) {
                    return false;
                }
            }
        }
        return true;
    }

    private static boolean isUpTo(int largest, int number) {
        return number >= 0 && number <= largest;
    }

    /** Earlier decisions stand in higher bits, so that ways compare as numbers do. */
    private static int decisionBit(int j) {
        return MOST_STEPS - 1 - j;
    }

    /** The instructions, each spread over four rows. */
    private static final class Program {
        private final int[] ops = new int[MOST_INSTRUCTIONS];
        private final int[] as = new int[MOST_INSTRUCTIONS];
        private final int[] bs = new int[MOST_INSTRUCTIONS];
        private final int[] cs = new int[MOST_INSTRUCTIONS];
        private int size = 0;

        static boolean allows(int op, int a, int b, int c) {
            switch (op) {
                case SET:
                    return isRegister(a) && isUpTo(LARGEST_NUMBER, b);
                case ADD:
                case SUBTRACT:
                case AND:
                case OR:
                case EXCLUSIVE_OR:
                case MULTIPLY:
                case DIVIDE:
                    return isRegister(a) && isRegister(b) && isRegister(c);
                case SHIFT:
                    return isRegister(a) && isRegister(b) && isUpTo(LARGEST_SHIFT, c);
                case GO_IF_LESS:
                case GO_IF_EQUAL:
                    return isRegister(a) && isRegister(b) && isUpTo(MOST_INSTRUCTIONS, c);
                case GO:
                    return isUpTo(MOST_INSTRUCTIONS, c);
                case CLAIM:
                case GIVE_BACK:
                    return isRegister(a);
                default:
                    return false;
            }
        }

        private static boolean isRegister(int number) {
            return isUpTo(REGISTERS - 1, number);
        }

        void append(int op, int a, int b, int c) {
            ops[size] = op;
            as[size] = a;
            bs[size] = b;
            cs[size] = c;
            size++;
        }

        boolean has(int place) {
            return place >= 0 && place < size;
        }
    }

    /** What one run of a program did. */
    private static final class Trace {
        private final int[] registers = new int[REGISTERS];
        private int place = 0;
        private int latest = 0;
        private int done = 0;
        private int visited = 0;
        private long decisions = 0;
        private int decisionCount = 0;
        private boolean ended = false;
        private int outcome = RETURNED;
        // The number returned or, for another outcome, the instruction done last.
        private int end = 0;

        void follow(Program program, int x, int y) {
            begin(x, y);
            for (int n = 0; n < MOST_STEPS && !ended && program.has(place); n++) {
                step(program);
            }
            if (!ended) {
                finishUnasked(program);
            }
        }

        private void begin(int x, int y) {
            registers[0] = x;
            registers[1] = y;
            registers[2] = 0;
            registers[3] = 0;
            place = 0;
            latest = 0;
            done = 0;
            visited = 0;
            decisions = 0;
            decisionCount = 0;
            ended = false;
        }

        private void step(Program program) {
            latest = place;
            done++;
            visited |= 1 << place;
            place++;
            int a = program.as[latest];
            int b = program.bs[latest];
            int c = program.cs[latest];
            int op = program.ops[latest];
            switch (op) {
                case SET: registers[a] = b; break;
                case SHIFT: registers[a] = registers[b] >> c; break;
                case GO_IF_LESS: goIf(registers[a] < registers[b], c); break;
                case GO_IF_EQUAL: goIf(registers[a] == registers[b], c); break;
                case GO: place = c; break;
                case DIVIDE: divide(a, b, c); break;
                case CLAIM: claim(a); break;
                case GIVE_BACK: finish(RETURNED, registers[a]); break;
                default: registers[a] = combine(op, registers[b], registers[c]); break;
            }
        }

        private static int combine(int op, int b, int c) {
            switch (op) {
                case ADD: return (b + c) & LARGEST_NUMBER;
                case SUBTRACT: return (b - c) & LARGEST_NUMBER;
                case AND: return b & c;
                case OR: return b | c;
                case EXCLUSIVE_OR: return b ^ c;
                default: return (b * c) & LARGEST_NUMBER;
            }
        }

        private void goIf(boolean yes, int target) {
            decide(yes);
            if (yes) {
                place = target;
            }
        }

        private void divide(int a, int b, int c) {
            int divisor = registers[c];
            decide(divisor == 0);
            if (divisor == 0) {
                finish(CRASHED, latest);
            } else {
                registers[a] = registers[b] / divisor;
            }
        }

        private void claim(int a) {
            boolean untrue = registers[a] == 0;
            decide(untrue);
            if (untrue) {
                finish(FAILED, latest);
            }
        }

        private void decide(boolean yes) {
            if (yes) {
                decisions |= 1L << decisionBit(decisionCount);
            }
            decisionCount++;
        }

        /** Ends a run that no instruction ended: it left the program or did all it may. */
        private void finishUnasked(Program program) {
            if (program.has(place)) {
                finish(LATE, latest);
            } else {
                finish(RETURNED, registers[0]);
            }
        }

        private void finish(int outcome, int end) {
            ended = true;
            this.outcome = outcome;
            this.end = end;
        }
    }

    /** A way with its least inputs and what their run came to. */
    private static final class Way {
        private int x = 0;
        private int y = 0;
        private int outcome = RETURNED;
        private int end = 0;
        private long decisions = 0;
        private int decisionCount = 0;

        void set(Trace trace, int x, int y) {
            this.x = x;
            this.y = y;
            outcome = trace.outcome;
            end = trace.end;
            decisions = trace.decisions;
            decisionCount = trace.decisionCount;
        }

        boolean agreesWith(Trace trace) {
            int behind = MOST_STEPS - trace.decisionCount;
            return decisionCount >= trace.decisionCount
                    && decisions >> behind == trace.decisions >> behind;
        }
    }

    /** The ways that an exploring found, in their order. */
    private static final class Results {
        private static final int NO_INPUTS = 1 << (MOST_BITS + MOST_BITS);

        // The ways behind the size are spare ones, to be used again.
        private final Way[] ways = new Way[MOST_WAYS];
        private int size = 0;
        private int visited = 0;

        Results() {
            for (int k = 0; k < MOST_WAYS; k++) {
                ways[k] = new Way();
            }
        }

        void empty() {
            size = 0;
            visited = 0;
        }

        boolean has(int k) {
            return k >= 0 && k < size;
        }

        /** Adds the way of a run if it is a new one; answers false if there is no room for it. */
        boolean take(Trace trace, int x, int y) {
            int k = firstNotBefore(trace.decisions);
            // No way begins another of the same program, so equal numbers are equal ways.
            if (has(k) && ways[k].decisions == trace.decisions) {
                return true;
            }
            if (size == MOST_WAYS) {
                return false;
            }
            makeRoom(k);
            ways[k].set(trace, x, y);
            visited |= trace.visited;
            return true;
        }

        private int firstNotBefore(long decisions) {
            int k = 0;
            while (k < size && ways[k].decisions < decisions) {
                k++;
            }
            return k;
        }

        private void makeRoom(int k) {
            Way spare = ways[size];
            for (int i = size; i > k; i--) {
                ways[i] = ways[i - 1];
            }
            ways[k] = spare;
            size++;
        }

        /** Answers the size if no way agrees. */
        int firstAgreeing(Trace trace) {
            int k = 0;
            while (k < size && !ways[k].agreesWith(trace)) {
                k++;
            }
            return k;
        }

        /** Answers NO_INPUTS if no way has the outcome. */
        int leastInputs(int outcome) {
            int least = NO_INPUTS;
            for (int k = 0; k < size; k++) {
                if (ways[k].outcome == outcome) {
                    least = Math.min(least, (ways[k].x << MOST_BITS) + ways[k].y);
                }
            }
            return least;
        }
    }
}
