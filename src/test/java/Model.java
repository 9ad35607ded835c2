import java.util.ArrayList;
import java.util.List;
import java.util.NoSuchElementException;
import java.util.TreeMap;

/**
 * The document once more, as plainly as the Java library allows: decisions are texts of 0 and 1,
 * and ways are found by sorting those texts. It shares no code with the program.
 */
final class Model {
    private static final class Done {
        int x;
        int y;
        int outcome;
        int end;
        int instructions;
        int visited;
        final StringBuilder decisions = new StringBuilder();
    }

    private final List<int[]> program = new ArrayList<>();
    private List<Done> results = new ArrayList<>();
    private Done last = null;
    private int width = 3;
    private int runs = 0;

    int instr(int op, int a, int b, int c) {
        boolean three = op >= 1 && op <= 6 || op == 11;
        argument(op >= 0 && op <= 13);
        argument(op == 10 || a >= 0 && a <= 3);
        argument(!(op >= 1 && op <= 9 || op == 11) || b >= 0 && b <= 3);
        argument(!three || c >= 0 && c <= 3);
        argument(op != 0 || b >= 0 && b <= 255);
        argument(op != 7 || c >= 0 && c <= 7);
        argument(op < 8 || op > 10 || c >= 0 && c <= 24);
        state(program.size() < 24);
        program.add(new int[] {op, a, b, c});
        return program.size();
    }

    int undo() {
        element(!program.isEmpty());
        program.remove(program.size() - 1);
        return program.size();
    }

    int width(int bits) {
        argument(bits >= 1 && bits <= 4);
        int before = width;
        width = bits;
        return before;
    }

    int run(int x, int y) {
        argument(inRange(x) && inRange(y));
        last = follow(x, y);
        runs++;
        return last.outcome;
    }

    int last(int what) {
        element(last != null);
        argument(what >= 0 && what <= 2);
        return List.of(last.end, last.instructions, last.decisions.length()).get(what);
    }

    int explore() {
        TreeMap<String, Done> found = new TreeMap<>();
        for (int x = 0; inRange(x); x++) {
            for (int y = 0; inRange(y); y++) {
                Done done = follow(x, y);
                found.putIfAbsent(done.decisions.toString(), done);
            }
        }
        state(found.size() <= 64);
        results = new ArrayList<>(found.values());
        return results.size();
    }

    int way(int k, int what) {
        element(k >= 0 && k < results.size());
        argument(what >= 0 && what <= 4);
        Done way = results.get(k);
        return List.of(way.x, way.y, way.outcome, way.end, way.decisions.length()).get(what);
    }

    int decision(int k, int j) {
        element(k >= 0 && k < results.size());
        element(j >= 0 && j < results.get(k).decisions.length());
        return results.get(k).decisions.charAt(j) - '0';
    }

    int match(int x, int y) {
        argument(inRange(x) && inRange(y));
        String decisions = follow(x, y).decisions.toString();
        for (int k = 0; k < results.size(); k++) {
            if (results.get(k).decisions.toString().startsWith(decisions)) {
                return k;
            }
        }
        throw new NoSuchElementException();
    }

    int example(int outcome) {
        argument(outcome >= 0 && outcome <= 3);
        int least = results.stream().filter(way -> way.outcome == outcome)
                .mapToInt(way -> 16 * way.x + way.y).min().orElse(-1);
        element(least >= 0);
        return least;
    }

    int covered() {
        return results.stream().mapToInt(way -> way.visited).reduce(0, (a, b) -> a | b);
    }

    int count(int what) {
        argument(what >= 0 && what <= 3);
        return List.of(program.size(), width, results.size(), runs).get(what);
    }

    private boolean inRange(int input) {
        return input >= 0 && input < Math.pow(2, width);
    }

    private Done follow(int x, int y) {
        Done done = new Done();
        done.x = x;
        done.y = y;
        int[] r = {x, y, 0, 0};
        int place = 0;
        int before = -1;
        while (place < program.size()) {
            if (done.instructions == 40) {
                return ended(done, 3, before);
            }
            done.instructions++;
            done.visited |= 1 << place;
            before = place;
            int[] i = program.get(place++);
            if (i[0] == 8 || i[0] == 9) {
                boolean goes = i[0] == 8 ? r[i[1]] < r[i[2]] : r[i[1]] == r[i[2]];
                done.decisions.append(goes ? 1 : 0);
                place = goes ? i[3] : place;
            } else if (i[0] == 10) {
                place = i[3];
            } else if (i[0] == 11 || i[0] == 12) {
                boolean ends = r[i[0] == 11 ? i[3] : i[1]] == 0;
                done.decisions.append(ends ? 1 : 0);
                if (ends) {
                    return ended(done, i[0] - 10, before);
                }
                r[i[1]] = i[0] == 11 ? r[i[2]] / r[i[3]] : r[i[1]];
            } else if (i[0] == 13) {
                return ended(done, 0, r[i[1]]);
            } else {
                r[i[1]] = computed(i, r);
            }
        }
        return ended(done, 0, r[0]);
    }

    private static Done ended(Done done, int outcome, int end) {
        done.outcome = outcome;
        done.end = end;
        return done;
    }

    private static int computed(int[] i, int[] r) {
        if (i[0] == 0) {
            return i[2];
        }
        int b = r[i[2]];
        if (i[0] == 7) {
            return (int) Math.floor(b / Math.pow(2, i[3]));
        }
        int c = r[i[3]];
        int[] all = {b + c, b - c, b & c, b | c, b ^ c, b * c};
        return Math.floorMod(all[i[0] - 1], 256);
    }

    private static void argument(boolean fine) {
        if (!fine) {
            throw new IllegalArgumentException();
        }
    }

    private static void state(boolean fine) {
        if (!fine) {
            throw new IllegalStateException();
        }
    }

    private static void element(boolean fine) {
        if (!fine) {
            throw new NoSuchElementException();
        }
    }
}
