/** "A word that is none of these raises TRAP 2 with w." Every o, every f and g, and every word of o = 115 with f = 0. */
public final class NoInstructionTest {
    private static final int LAST_F = 7;
    private static final int LAST_G = 127;

    public static void main(String[] args) {
        everyOpcode();
        everyFunction();
        everyFunctionOfRegisters();
        everyFunctionOfConstants();
        everySystemWord();
        systemWordsWithRegisters();
        Due.end();
    }

    /** Register 1 is 64, so that jumps, loads and stores of it find a word. */
    private static CycleChip after(int w) {
        CycleChip chip = Asm.chip(w);
        chip.give(1, 64);
        chip.give(2, 2);
        chip.give(3, 5);
        chip.run(6);
        return chip;
    }

    private static void isNone(int w) {
        CycleChip chip = after(w);
        Due.same("none, acts: " + w, chip.actCycle(0), -1);
        Due.same("none, counted: " + w, chip.traps(), 1);
        Due.same("none, cause: " + w, chip.control(Asm.MCAUSE), 2);
        Due.same("none, value: " + w, chip.control(Asm.MTVAL), w);
        Due.same("none, register: " + w, chip.register(3), 5);
        Due.same("none, store: " + w, chip.stores(), 0);
        chip.run(1);
        Due.same("none, wants: " + w, chip.bus(), 0);
    }

    private static void isOne(int w) {
        Due.same("is an instruction: " + w, after(w).traps(), 0);
    }

    private static void check(int w, boolean one) {
        if (one) {
            isOne(w);
        } else {
            isNone(w);
        }
    }

    private static boolean isOpcode(int o) {
        for (int known : new int[] {55, 23, 111, 103, 99, 51, 19, 3, 35, 15, 115}) {
            if (o == known) {
                return true;
            }
        }
        return false;
    }

    /** All o that are none, with f = 0 and f = 2, and with all other bits set. */
    private static void everyOpcode() {
        for (int o = 0; o < 128; o++) {
            if (!isOpcode(o)) {
                isNone(o);
                isNone(o | 2 << 12);
                isNone(o | -128);
            }
        }
        isNone(0);
        isNone(-1);
        isNone(Integer.MIN_VALUE);
        isNone(Integer.MAX_VALUE);
    }

    /** o = 103, 99, 3, 35, 15: some f are none. */
    private static void everyFunction() {
        for (int f = 0; f <= LAST_F; f++) {
            check(Asm.i(103, f, 3, 1, 0), f == 0);
            check(Asm.branch(f, 1, 2, 8), f != 2 && f != 3);
            check(Asm.i(3, f, 3, 1, 0), f == 2);
            check(Asm.r(35, f, 0, 0, 1, 2), f == 2);
            check(15 | f << 12, f == 0 || f == 1);
        }
    }

    /** "With o = 51 g must be 0 ... But g = 32 and f = 5 ...; and g = 32, f = 0", and "g = 1". */
    private static void everyFunctionOfRegisters() {
        for (int g = 0; g <= LAST_G; g++) {
            for (int f = 0; f <= LAST_F; f++) {
                check(Asm.r(51, f, g, 3, 1, 2), g == 0 || g == 1 || g == 32 && (f == 0 || f == 5));
            }
        }
    }

    /** "with o = 19 it must be 0 where f is 1 or 5. But g = 32 and f = 5". */
    private static void everyFunctionOfConstants() {
        for (int g = 0; g <= LAST_G; g++) {
            for (int f = 0; f <= LAST_F; f++) {
                boolean shifts = f == 1 || f == 5;
                check(Asm.r(19, f, g, 3, 1, 2), !shifts || g == 0 || g == 32 && f == 5);
            }
        }
    }

    /** Four words of o = 115 with f = 0 are instructions, two of them traps of their own; with f = 4 none is. */
    private static void everySystemWord() {
        for (int i = 0; i < 4096; i++) {
            int w = 115 | i << 20;
            if (w == Asm.ECALL || w == Asm.EBREAK) {
                Due.same("cause of " + w, after(w).control(Asm.MCAUSE), w == Asm.ECALL ? 11 : 3);
            } else {
                check(w, w == Asm.MRET || w == Asm.WFI);
            }
        }
        for (int n : new int[] {0, 768, 832, 3072, 4095}) {
            isNone(Asm.i(115, 4, 3, 1, n));
            isNone(Asm.i(115, 4, 0, 0, n));
        }
    }

    /** The four words have d = 0 and a = 0. */
    private static void systemWordsWithRegisters() {
        for (int w : new int[] {Asm.ECALL, Asm.EBREAK, Asm.MRET, Asm.WFI}) {
            for (int k = 1; k < 32; k++) {
                isNone(w | k << 7);
                isNone(w | k << 15);
            }
        }
    }
}
