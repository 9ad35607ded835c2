import java.util.function.IntSupplier;

/** All promises: long runs of calls, each answered by the program and by the model alike. */
public final class ModelTest {
    private static final int OBJECTS = 2500;
    private static final int CALLS = 512;
    private static final int[] ODD = {-1, 4, 5, 8, 16, 24, 25, 40, 64, 255, 256,
        Integer.MIN_VALUE, Integer.MAX_VALUE};

    private static final Check check = new Check();
    // The numbers must be the same in every run of this test, so they come from this state alone.
    private static long numbers = 20261115L;

    private final WayFinder finder = new WayFinder();
    private final Model model = new Model();
    private final int object;
    private int calls = 0;

    private ModelTest(int object) {
        this.object = object;
    }

    public static void main(String[] args) {
        for (int object = 0; object < OBJECTS; object++) {
            new ModelTest(object).makeCalls();
        }
        check.end();
    }

    /** Makes 512 calls, the most that the document promises to answer. */
    private void makeCalls() {
        if (below(4) == 0) {
            manyWays();
        }
        // Programs of many instructions are rare by chance, so some objects begin with one.
        int first = below(3) * below(13);
        for (int n = 0; n < first; n++) {
            instr();
        }
        while (calls < CALLS) {
            if (below(60) == 0) {
                allResults();
            } else {
                call(below(26));
            }
        }
    }

    private void call(int kind) {
        if (kind < 4) {
            instr();
        } else if (kind < 7) {
            compare("undo", finder::undo, model::undo);
        } else if (kind < 9) {
            explore();
        } else if (kind < 10) {
            int bits = mostly(5);
            compare("width " + bits, () -> finder.width(bits), () -> model.width(bits));
        } else if (kind < 14) {
            int x = input();
            int y = input();
            compare("run " + x + " " + y, () -> finder.run(x, y), () -> model.run(x, y));
        } else if (kind < 17) {
            int x = input();
            int y = input();
            compare("match " + x + " " + y, () -> finder.match(x, y), () -> model.match(x, y));
        } else if (kind < 19) {
            int what = mostly(3);
            compare("last " + what, () -> finder.last(what), () -> model.last(what));
        } else {
            ask(kind);
        }
    }

    private void ask(int kind) {
        int k = mostly(Math.max(1, model.count(2)));
        int what = mostly(5);
        if (kind < 21) {
            compare("way " + k + " " + what, () -> finder.way(k, what), () -> model.way(k, what));
        } else if (kind < 23) {
            int j = mostly(6);
            compare("decision " + k + " " + j, () -> finder.decision(k, j),
                    () -> model.decision(k, j));
        } else if (kind < 24) {
            compare("example " + what, () -> finder.example(what), () -> model.example(what));
        } else if (kind < 25) {
            compare("covered", finder::covered, model::covered);
        } else {
            compare("count " + what, () -> finder.count(what), () -> model.count(what));
        }
    }

    private void instr() {
        int op = mostly(14);
        int a = mostly(4);
        int b = op == 0 ? mostly(below(2) == 0 ? 16 : 256) : mostly(4);
        int c = op == 7 ? mostly(8) : op >= 8 && op <= 10 ? mostly(25) : mostly(4);
        instr(op, a, b, c);
    }

    private void instr(int op, int a, int b, int c) {
        compare("instr " + op + " " + a + " " + b + " " + c,
                () -> finder.instr(op, a, b, c), () -> model.instr(op, a, b, c));
    }

    /** Seven decisions on bits of x or y: by chance some 16 to 128 ways. */
    private void manyWays() {
        compare("width 4", () -> finder.width(4), () -> model.width(4));
        instr(0, 3, 1, 0);
        for (int bit = 0; bit < 7; bit++) {
            int input = below(2);
            instr(3, 2, input, 3);
            instr(9, 2, 3, model.count(0) + 1);
            instr(7, input, input, 1);
        }
        explore();
    }

    private void explore() {
        compare("explore", finder::explore, model::explore);
    }

    /** Every way with every decision, from one of them on, as far as there are calls left. */
    private void allResults() {
        int ways = model.count(2);
        int first = below(ways + 1);
        for (int k = 0; k < ways; k++) {
            int way = (first + k) % ways;
            for (int what = 0; what < 5; what++) {
                int asked = what;
                compare("way " + way + " " + asked, () -> finder.way(way, asked),
                        () -> model.way(way, asked));
            }
            for (int j = 0; j <= model.way(way, 4); j++) {
                int at = j;
                compare("decision " + way + " " + at, () -> finder.decision(way, at),
                        () -> model.decision(way, at));
            }
        }
    }

    private void compare(String call, IntSupplier program, IntSupplier due) {
        if (calls == CALLS) {
            return;
        }
        calls++;
        check.due("object " + object + ": " + call, Check.answerOf(due), Check.answerOf(program));
    }

    private int input() {
        return mostly(1 << model.count(1));
    }

    /** A number below the bound, but for one in 24, which is an odd one. */
    private static int mostly(int bound) {
        return below(24) == 0 ? ODD[below(ODD.length)] : below(bound);
    }

    private static int below(int bound) {
        numbers = numbers * 6364136223846793005L + 1442695040888963407L;
        return (int) ((numbers >>> 33) % bound);
    }
}
