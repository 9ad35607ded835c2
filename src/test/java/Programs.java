/** Programs that several tests use. */
final class Programs {
    private Programs() {
    }

    /** Crashes if y is 0, fails if x is below y, is late if x / y is 3, else returns x / y. */
    static Recorded allOutcomes() {
        return Recorded.with(Check.i(11, 2, 0, 1), Check.i(12, 2, 0, 0), Check.i(0, 3, 3, 0),
                Check.i(9, 2, 3, 3), Check.i(13, 2, 0, 0));
    }

    /** Tells three bits of each input apart: 64 ways of width 3 and more, by 19 instructions. */
    static void addSixBits(Recorded finder) {
        finder.instr(0, 3, 1, 0);
        for (int bit = 0; bit < 3; bit++) {
            addBit(finder, 0);
            addBit(finder, 1);
            finder.add(Check.i(7, 0, 0, 1), Check.i(7, 1, 1, 1));
        }
    }

    /** Tells all inputs of width 4 apart: 256 ways, by 23 instructions. */
    static Recorded eightBits() {
        Recorded finder = Recorded.with(Check.i(0, 3, 1, 0));
        finder.width(4);
        for (int input = 0; input < 2; input++) {
            addBit(finder, input);
            for (int bit = 1; bit < 4; bit++) {
                finder.instr(7, input, input, 1);
                addBit(finder, input);
            }
        }
        return finder;
    }

    /** Decides by the lowest bit of an input, and goes on with the next in either case. */
    private static void addBit(Recorded finder, int input) {
        int next = finder.instr(3, 2, input, 3) + 1;
        finder.instr(9, 2, 3, next);
    }

    /**
     * Goes round once, and is on its second round when its 40 instructions are done, all of them
     * decisions: the 40th goes to 24 if x / y is 0.
     */
    static Recorded twoRounds() {
        Recorded finder = new Recorded();
        finder.fill(15, Check.i(8, 0, 0, 0));
        finder.add(Check.i(9, 0, 2, 24), Check.i(11, 0, 0, 1));
        finder.fill(6, Check.i(8, 0, 0, 0));
        finder.instr(9, 2, 2, 0);
        return finder;
    }
}
