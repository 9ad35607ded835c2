import java.util.Arrays;

/** The terms of the program: what each instruction does, at the edges of numbers and places. */
public final class InstructionsTest {
    private static final int RETURNED = 0;
    private static final int CRASHED = 1;
    private static final int FAILED = 2;
    private static final int LATE = 3;
    private static final int NUMBER_OF_REGISTERS = 4;
    private static final int[] FIRST_NUMBERS = {200, 100, 7, 3};
    private static final Check check = new Check();

    public static void main(String[] args) {
        upTo24Instructions();
        numberedFrom0();
        everyRegisterAsTarget();
        everyRegisterAsSource();
        everyRegisterInBranches();
        setsANumber();
        addsLowest8Bits();
        subtractsLowest8Bits();
        multipliesLowest8Bits();
        combinesBitByBit();
        shiftsRoundDown();
        goesIfLess();
        goesIfEqual();
        goes();
        dividesRoundDown();
        crashesOn0();
        failsOn0();
        returnsARegister();
        returnsRegister0BehindTheLast();
        returnsRegister0BeyondTheLast();
        check.end();
    }

    private static void upTo24Instructions() {
        check.by("THE PROGRAM has up to 24 INSTRUCTIONS");
        Recorded none = new Recorded();
        check.runs("0 instructions", none, 6, 2, RETURNED, 6, 0, 0);
        Recorded all = Recorded.with(Check.i(0, 3, 1, 0));
        all.fill(23, Check.i(1, 0, 0, 3));
        check.runs("24 instructions", all, 6, 2, RETURNED, 29, 24, 0);
        check.refuses("a 25th", Check.STATE, all, () -> all.instr(1, 0, 0, 3));
    }

    private static void numberedFrom0() {
        check.by("numbered from 0");
        Recorded first = Recorded.with(Check.i(12, 2, 0, 0));
        check.runs("the first one fails", first, 1, 1, FAILED, 0, 1, 1);
        Recorded last = new Recorded();
        last.fill(23, Check.i(0, 3, 1, 0));
        last.add(Check.i(12, 2, 0, 0));
        check.runs("the 24th one fails", last, 1, 1, FAILED, 23, 24, 1);
    }

    private static void everyRegisterAsTarget() {
        check.by("over the REGISTERS 0 .. 3");
        for (int a = 0; a < NUMBER_OF_REGISTERS; a++) {
            int[] want = FIRST_NUMBERS.clone();
            want[a] = 77;
            registersAre(Check.i(0, a, 77, 0), want);
            for (int b = 0; b < NUMBER_OF_REGISTERS; b++) {
                want[a] = FIRST_NUMBERS[b] / 2;
                registersAre(Check.i(7, a, b, 1), want);
            }
        }
    }

    private static void everyRegisterAsSource() {
        check.by("\"A\" stands for the register a");
        for (int at = 0; at < 64; at++) {
            int a = at / 16;
            int b = at / 4 % 4;
            int c = at % 4;
            int left = FIRST_NUMBERS[b];
            int right = FIRST_NUMBERS[c];
            int[] sums = {left + right, left - right, left & right, left | right, left ^ right,
                left * right};
            for (int op = 1; op <= 6; op++) {
                int[] want = FIRST_NUMBERS.clone();
                want[a] = Math.floorMod(sums[op - 1], 256);
                registersAre(Check.i(op, a, b, c), want);
            }
            int[] want = FIRST_NUMBERS.clone();
            want[a] = left / right;
            registersAre(Check.i(11, a, b, c), want);
        }
    }

    private static void everyRegisterInBranches() {
        for (int a = 0; a < NUMBER_OF_REGISTERS; a++) {
            for (int b = 0; b < NUMBER_OF_REGISTERS; b++) {
                registersAre(Check.i(9, a, b, 24), a == b ? null : FIRST_NUMBERS);
                // The numbers fall from register to register.
                registersAre(Check.i(8, a, b, 24), a > b ? null : FIRST_NUMBERS);
            }
            registersAre(Check.i(12, a, 0, 0), FIRST_NUMBERS);
        }
    }

    /** What all registers hold behind the instruction; null if it goes beyond the last one. */
    private static void registersAre(int[] instruction, int[] want) {
        for (int register = 0; register < NUMBER_OF_REGISTERS; register++) {
            Recorded finder = new Recorded();
            for (int r = 0; r < NUMBER_OF_REGISTERS; r++) {
                finder.instr(0, r, FIRST_NUMBERS[r], 0);
            }
            finder.add(instruction, Check.i(13, register, 0, 0));
            check.answers(Arrays.toString(instruction), RETURNED, () -> finder.run(0, 0));
            String what = Arrays.toString(instruction) + ": register " + register;
            check.answers(what, want == null ? FIRST_NUMBERS[0] : want[register],
                    () -> finder.last(0));
            check.answers(what + ", instructions done", want == null ? 5 : 6,
                    () -> finder.last(1));
        }
    }

    private static void setsANumber() {
        check.by("0: A becomes b.");
        for (int b : new int[] {0, 1, 4, 127, 128, 255}) {
            check.runs("b is " + b, Recorded.with(Check.i(0, 0, b, 0)), 6, 2, RETURNED, b, 1, 0);
        }
    }

    private static void addsLowest8Bits() {
        check.by("1 A becomes B + C .. of its lowest 8 bits");
        comes(1, 0, 0, 0);
        comes(1, 254, 1, 255);
        comes(1, 255, 1, 0);
        comes(1, 1, 255, 0);
        comes(1, 128, 128, 0);
        comes(1, 255, 255, 254);
    }

    private static void subtractsLowest8Bits() {
        check.by("2 B - C .. of its lowest 8 bits");
        comes(2, 255, 0, 255);
        comes(2, 1, 1, 0);
        comes(2, 0, 1, 255);
        comes(2, 0, 255, 1);
        comes(2, 254, 255, 255);
        comes(2, 255, 255, 0);
    }

    private static void multipliesLowest8Bits() {
        check.by("6 B times C, each of its lowest 8 bits");
        comes(6, 255, 0, 0);
        comes(6, 15, 17, 255);
        comes(6, 16, 16, 0);
        comes(6, 128, 2, 0);
        comes(6, 129, 2, 2);
        comes(6, 255, 2, 254);
        comes(6, 255, 255, 1);
    }

    private static void combinesBitByBit() {
        check.by("3 B and C, 4 B or C, 5 B exclusive or C (bit by bit)");
        comes(3, 255, 255, 255);
        comes(3, 170, 85, 0);
        comes(3, 204, 170, 136);
        comes(3, 0, 255, 0);
        comes(4, 0, 0, 0);
        comes(4, 170, 85, 255);
        comes(4, 204, 170, 238);
        comes(4, 255, 255, 255);
        comes(5, 255, 255, 0);
        comes(5, 170, 85, 255);
        comes(5, 204, 170, 102);
        comes(5, 0, 255, 255);
    }

    private static void shiftsRoundDown() {
        check.by("7 A becomes B divided by 2 to the power c, rounded down.");
        int[] ofAllOnes = {255, 127, 63, 31, 15, 7, 3, 1};
        int[] of128 = {128, 64, 32, 16, 8, 4, 2, 1};
        int[] of127 = {127, 63, 31, 15, 7, 3, 1, 0};
        int[] of1 = {1, 0, 0, 0, 0, 0, 0, 0};
        for (int c = 0; c <= 7; c++) {
            shifts(255, c, ofAllOnes[c]);
            shifts(128, c, of128[c]);
            shifts(127, c, of127[c]);
            shifts(1, c, of1[c]);
            shifts(0, c, 0);
        }
    }

    private static void shifts(int b, int c, int want) {
        Recorded finder = Recorded.with(Check.i(0, 2, b, 0), Check.i(7, 3, 2, c),
                Check.i(13, 3, 0, 0));
        check.runs(b + " divided by 2 to the power " + c, finder, 6, 2, RETURNED, want, 3, 0);
    }

    private static void goesIfLess() {
        check.by("8: goes to c if A is less than B.");
        branches(8, 0, 0, false);
        branches(8, 0, 1, true);
        branches(8, 1, 0, false);
        branches(8, 127, 128, true);
        branches(8, 128, 127, false);
        branches(8, 254, 255, true);
        branches(8, 255, 255, false);
        branches(8, 255, 254, false);
        branches(8, 0, 255, true);
        branches(8, 255, 0, false);
    }

    private static void goesIfEqual() {
        check.by("9: if they are equal.");
        branches(9, 0, 0, true);
        branches(9, 0, 1, false);
        branches(9, 1, 0, false);
        branches(9, 127, 255, false);
        branches(9, 254, 255, false);
        branches(9, 255, 255, true);
        branches(9, 255, 0, false);
    }

    private static void goes() {
        check.by("10: goes to c.");
        check.runs("to the next", Recorded.with(Check.i(10, 0, 0, 1), Check.i(13, 1, 0, 0)), 6, 2,
                RETURNED, 2, 2, 0);
        check.runs("to itself", Recorded.with(Check.i(10, 0, 0, 0)), 6, 2, LATE, 0, 40, 0);
        check.runs("back to 0", Recorded.with(Check.i(12, 0, 0, 0), Check.i(2, 0, 0, 0),
                Check.i(10, 0, 0, 0)), 6, 2, FAILED, 0, 4, 2);
        Recorded far = Recorded.with(Check.i(10, 0, 0, 23));
        far.fill(22, Check.i(12, 2, 0, 0));
        far.add(Check.i(13, 1, 0, 0));
        check.runs("to 23", far, 6, 2, RETURNED, 2, 2, 0);
    }

    private static void dividesRoundDown() {
        check.by("11: A becomes B / C, rounded down");
        divides(0, 1, 0);
        divides(0, 255, 0);
        divides(254, 255, 0);
        divides(255, 255, 1);
        divides(255, 254, 1);
        divides(255, 128, 1);
        divides(255, 127, 2);
        divides(255, 2, 127);
        divides(255, 1, 255);
        divides(128, 1, 128);
    }

    private static void divides(int b, int c, int want) {
        Recorded finder = Recorded.with(Check.i(0, 2, b, 0), Check.i(0, 3, c, 0),
                Check.i(11, 2, 2, 3), Check.i(13, 2, 0, 0));
        check.runs(b + " / " + c, finder, 0, 0, RETURNED, want, 4, 1);
    }

    private static void crashesOn0() {
        check.by("C is 0: it CRASHES.");
        for (int b : new int[] {0, 1, 255}) {
            Recorded finder = Recorded.with(Check.i(0, 2, b, 0), Check.i(11, 2, 2, 3),
                    Check.i(13, 1, 0, 0));
            check.runs(b + " / 0", finder, 6, 2, CRASHED, 1, 2, 1);
        }
        Recorded wrapped = Recorded.with(Check.i(0, 2, 128, 0), Check.i(1, 2, 2, 2),
                Check.i(11, 0, 0, 2));
        check.runs("256, which is 0, as divisor", wrapped, 6, 2, CRASHED, 2, 3, 1);
        Recorded itself = Recorded.with(Check.i(11, 0, 0, 0));
        check.runs("0 / 0 of one register", itself, 0, 2, CRASHED, 0, 1, 1);
        check.runs("1 / 1 of one register", itself, 1, 2, RETURNED, 1, 1, 1);
    }

    private static void failsOn0() {
        check.by("12: A is 0: it FAILS.");
        for (int number : new int[] {1, 128, 255}) {
            Recorded finder = Recorded.with(Check.i(0, 2, number, 0), Check.i(12, 2, 0, 0),
                    Check.i(13, 2, 0, 0));
            check.runs("A is " + number, finder, 6, 2, RETURNED, number, 3, 1);
        }
        Recorded zero = Recorded.with(Check.i(0, 2, 0, 0), Check.i(12, 2, 0, 0),
                Check.i(13, 1, 0, 0));
        check.runs("A is 0", zero, 6, 2, FAILED, 1, 2, 1);
        Recorded wrapped = Recorded.with(Check.i(0, 2, 16, 0), Check.i(6, 2, 2, 2),
                Check.i(12, 2, 0, 0));
        check.runs("A is 256, which is 0", wrapped, 6, 2, FAILED, 2, 3, 1);
    }

    private static void returnsARegister() {
        check.by("13: it RETURNS A.");
        for (int number : new int[] {0, 1, 128, 255}) {
            for (int register = 0; register < NUMBER_OF_REGISTERS; register++) {
                Recorded finder = Recorded.with(Check.i(0, register, number, 0),
                        Check.i(13, register, 0, 0), Check.i(10, 0, 0, 0));
                check.runs("register " + register, finder, 6, 2, RETURNED, number, 2, 0);
            }
        }
    }

    private static void returnsRegister0BehindTheLast() {
        check.by("Behind the last instruction .. it RETURNS register 0.");
        check.runs("of no instructions", new Recorded(), 0, 7, RETURNED, 0, 0, 0);
        check.runs("of no instructions", new Recorded(), 7, 0, RETURNED, 7, 0, 0);
        check.runs("of one", Recorded.with(Check.i(0, 0, 255, 0)), 7, 0, RETURNED, 255, 1, 0);
        Recorded all = new Recorded();
        all.fill(24, Check.i(1, 0, 0, 1));
        check.runs("of 24", all, 7, 1, RETURNED, 31, 24, 0);
        check.runs("gone there", Recorded.with(Check.i(10, 0, 0, 1)), 7, 1, RETURNED, 7, 1, 0);
        check.runs("gone there if equal", Recorded.with(Check.i(9, 2, 3, 1)), 7, 1,
                RETURNED, 7, 1, 1);
        check.runs("gone there if less", Recorded.with(Check.i(8, 2, 0, 1)), 7, 1,
                RETURNED, 7, 1, 1);
        Recorded full = Recorded.with(Check.i(10, 0, 0, 24));
        full.fill(23, Check.i(12, 2, 0, 0));
        check.runs("of 24, gone there", full, 7, 1, RETURNED, 7, 1, 0);
    }

    private static void returnsRegister0BeyondTheLast() {
        check.by("(or at a place beyond it)");
        for (int place : new int[] {2, 23, 24}) {
            check.runs("goes to " + place, Recorded.with(Check.i(10, 0, 0, place)), 7, 1,
                    RETURNED, 7, 1, 0);
            check.runs("goes if equal to " + place, Recorded.with(Check.i(9, 2, 3, place)), 7, 1,
                    RETURNED, 7, 1, 1);
            check.runs("goes if less to " + place, Recorded.with(Check.i(8, 2, 0, place)), 7, 1,
                    RETURNED, 7, 1, 1);
        }
        Recorded undone = Recorded.with(Check.i(10, 0, 0, 2), Check.i(12, 2, 0, 0),
                Check.i(12, 3, 0, 0));
        check.runs("goes to 2 of 3", undone, 7, 1, FAILED, 2, 2, 1);
        undone.undo();
        check.runs("goes to 2 of 2", undone, 7, 1, RETURNED, 7, 1, 0);
        undone.undo();
        check.runs("goes to 2 of 1", undone, 7, 1, RETURNED, 7, 1, 0);
    }

    /** What an op makes of b and c, of registers 2 and 3. */
    private static void comes(int op, int b, int c, int want) {
        Recorded finder = Recorded.with(Check.i(0, 2, b, 0), Check.i(0, 3, c, 0),
                Check.i(op, 2, 2, 3), Check.i(13, 2, 0, 0));
        check.runs("op " + op + " of " + b + " and " + c, finder, 0, 0, RETURNED, want, 4, 0);
    }

    private static void branches(int op, int a, int b, boolean goes) {
        Recorded finder = Recorded.with(Check.i(0, 2, a, 0), Check.i(0, 3, b, 0),
                Check.i(op, 2, 3, 4), Check.i(13, 0, 0, 0), Check.i(13, 1, 0, 0));
        check.runs("op " + op + " of " + a + " and " + b, finder, 6, 5,
                RETURNED, goes ? 5 : 6, 4, 1);
    }
}
