/** The instructions of the document's terms: their results and their edges. */
public final class InstructionTest {
    private static final int MIN = Integer.MIN_VALUE;
    private static final int MAX = Integer.MAX_VALUE;

    public static void main(String[] args) {
        plain();
        sumsWrap();
        shiftsByFiveBits();
        comparisons();
        constants();
        products();
        quotients();
        divisionByZero();
        leastByMinusOne();
        allIsWorkedOutBefore();
        upperParts();
        branches();
        leastAndGreatestBranch();
        jumps();
        leastAndGreatestJump();
        linkAtTheLastWord();
        loadsAndStores();
        Due.end();
    }

    /** What register 3 becomes by the word, with registers 1 and 2 as told. */
    private static void gives(String what, int w, int xa, int xb, int want) {
        CycleChip chip = Asm.chip(w);
        chip.give(1, xa);
        chip.give(2, xb);
        chip.give(3, 123456789);
        Due.same(what + " acts", chip.run(6), 1);
        Due.same(what + " of " + xa + " and " + xb, chip.register(3), want);
        Due.same(what + " pc", chip.pc(), 4);
        Due.same(what + " leaves register 1", chip.register(1), xa);
        Due.same(what + " leaves register 2", chip.register(2), xb);
    }

    private static void plainOf(int f, int g, int xa, int xb, int want) {
        gives("51 f " + f + " g " + g, Asm.r(51, f, g, 3, 1, 2), xa, xb, want);
    }

    private static void plain() {
        plainOf(0, 0, 5, 7, 12);
        plainOf(0, 32, 5, 7, -2);
        plainOf(1, 0, 3, 4, 48);
        plainOf(4, 0, 0b1100, 0b1010, 0b0110);
        plainOf(5, 0, -16, 4, 0x0FFFFFFF);
        plainOf(5, 32, -16, 4, -1);
        plainOf(6, 0, 0b1100, 0b1010, 0b1110);
        plainOf(7, 0, 0b1100, 0b1010, 0b1000);
    }

    /** "Ints wrap." */
    private static void sumsWrap() {
        plainOf(0, 0, MAX, 1, MIN);
        plainOf(0, 0, MIN, MIN, 0);
        plainOf(0, 0, -1, 1, 0);
        plainOf(0, 0, MIN, -1, MAX);
        plainOf(0, 32, MIN, 1, MAX);
        plainOf(0, 32, 0, MIN, MIN);
        plainOf(0, 32, MAX, -1, MIN);
        constantOf(0, 2047, MAX, MIN + 2046);
        constantOf(0, -2048, MIN, MAX - 2047);
    }

    /** "shifts are by the lowest five bits of y". */
    private static void shiftsByFiveBits() {
        int[][] cases = {{0, 0}, {1, 1}, {31, 31}, {32, 0}, {33, 1}, {63, 31}, {64, 0}, {-1, 31}, {-31, 1}, {-32, 0},
            {MIN, 0}, {MAX, 31}};
        for (int[] c : cases) {
            int power = 1 << c[1];
            plainOf(1, 0, 3, c[0], 3 * power);
            plainOf(5, 0, MIN, c[0], (int) (2147483648L >> c[1]));
            plainOf(5, 32, MIN, c[0], (int) -(2147483648L >> c[1]));
            plainOf(5, 32, MAX, c[0], MAX >> c[1]);
        }
    }

    /** Signed and unsigned, of equals and of the least and the greatest. */
    private static void comparisons() {
        int[][] cases = {{-1, 1, 1, 0}, {1, -1, 0, 1}, {1, 1, 0, 0}, {-1, -1, 0, 0}, {MIN, MAX, 1, 0}, {MAX, MIN, 0, 1},
            {0, -1, 0, 1}, {-1, 0, 1, 0}, {MIN, MIN, 0, 0}, {6, 7, 1, 1}, {7, 6, 0, 0}};
        for (int[] c : cases) {
            plainOf(2, 0, c[0], c[1], c[2]);
            plainOf(3, 0, c[0], c[1], c[3]);
        }
    }

    private static void constantOf(int f, int constant, int xa, int want) {
        gives("19 f " + f + " with " + constant, Asm.i(19, f, 3, 1, constant), xa, 55, want);
    }

    /** "o = 19, with y = i": i is -2048 .. 2047; shifts are by 0 .. 31. */
    private static void constants() {
        constantOf(0, 2047, 1, 2048);
        constantOf(0, -2048, 1, -2047);
        constantOf(0, 1024, 1, 1025);
        constantOf(0, 32, 1, 33);
        constantOf(1, 31, 1, MIN);
        constantOf(1, 0, -7, -7);
        constantOf(2, -1, -2, 1);
        constantOf(2, -1, 0, 0);
        constantOf(3, -1, 0, 1);
        constantOf(3, -1, -1, 0);
        constantOf(3, 5, 4, 1);
        constantOf(4, -1, 5, -6);
        constantOf(5, 28, MIN, 8);
        constantOf(5, 1024 + 28, MIN, -8);
        constantOf(5, 1024, MIN, MIN);
        constantOf(6, -2048, 5, -2043);
        constantOf(7, -2048, 4095, 2048);
    }

    /** "P being the exact product": its low word wraps, its high word is signed or unsigned. */
    private static void products() {
        int[][] cases = {{3, -5, -15, -1, 2, 2}, {-3, 5, -15, -1, -1, 4}, {-1, -1, 1, 0, -1, -2},
            {MIN, MIN, 0, 0x40000000, -0x40000000, 0x40000000}, {MIN, -1, MIN, 0, MIN, MAX},
            {MAX, MAX, 1, 0x3FFFFFFF, 0x3FFFFFFF, 0x3FFFFFFF}, {0, -1, 0, 0, 0, 0}, {65536, 65536, 0, 1, 1, 1},
            {-1, 1, -1, -1, -1, 0}, {1, -1, -1, -1, 0, 0}};
        for (int[] c : cases) {
            for (int f = 0; f < 4; f++) {
                plainOf(f, 1, c[0], c[1], c[2 + f]);
            }
        }
    }

    private static void quotientsOf(int[] c) {
        for (int f = 4; f < 8; f++) {
            plainOf(f, 1, c[0], c[1], c[f - 2]);
        }
    }

    /** "xa / xb (cut towards 0)", "the remainder xa % xb", and "both unsigned". */
    private static void quotients() {
        int[][] cases = {{7, 2, 3, 3, 1, 1}, {-7, 2, -3, MAX - 3, -1, 1}, {7, -2, -3, 0, 1, 7}, {-7, -2, 3, 0, -1, -7},
            {-1, MIN, 0, 1, -1, MAX}, {-1, -1, 1, 1, 0, 0}, {-2, 3, 0, 1431655764, -2, 2}, {0, 5, 0, 0, 0, 0},
            {MIN, 1, MIN, MIN, 0, 0}, {MIN, MIN, 1, 1, 0, 0}, {MAX, MIN, 0, 0, MAX, MAX}, {MIN, MAX, -1, 1, -1, 1}};
        for (int[] c : cases) {
            quotientsOf(c);
        }
    }

    /** "By 0 the quotient is -1, the remainder xa". */
    private static void divisionByZero() {
        for (int x : new int[] {0, 1, 9, -9, -1, MIN, MAX}) {
            quotientsOf(new int[] {x, 0, -1, -1, x, x});
        }
    }

    /** "-2^31 by -1: quotient -2^31, remainder 0"; unsigned it is a division like others. */
    private static void leastByMinusOne() {
        quotientsOf(new int[] {MIN, -1, MIN, 0, 0, MIN});
        quotientsOf(new int[] {MIN + 1, -1, MAX, 0, 0, MIN + 1});
        quotientsOf(new int[] {MAX, -1, MIN + 1, 0, 0, MAX});
    }

    /** "all values are worked out before anything changes": the register that changes is a part of the sum. */
    private static void allIsWorkedOutBefore() {
        CycleChip chip = Asm.chip(Asm.add(1, 1, 1), Asm.mul(1, 1, 1), Asm.div(1, 1, 1), Asm.jalr(1, 1, 63));
        chip.give(1, 5);
        chip.run(6);
        Due.same("twice", chip.register(1), 10);
        chip.run(1);
        Due.same("squared", chip.register(1), 100);
        chip.run(2);
        Due.same("by itself", chip.register(1), 1);
        chip.run(8);
        Due.same("link", chip.register(1), 16);
        Due.same("pc", chip.pc(), 64);
    }

    private static void upperParts() {
        gives("lui of the least", Asm.lui(3, MIN), 1, 2, MIN);
        gives("lui of the greatest", Asm.lui(3, MAX), 1, 2, MAX - 4095);
        gives("lui", Asm.lui(3, 0x12345000), 1, 2, 0x12345000);
        gives("lui of -4096", Asm.lui(3, -4096), 1, 2, -4096);
        gives("auipc at 0", Asm.auipc(3, 0x7000), 1, 2, 0x7000);
        CycleChip chip = Asm.chip(Asm.NOP, Asm.NOP, Asm.auipc(3, -4096));
        chip.run(8);
        Due.same("auipc at 8", chip.register(3), -4088);
    }

    /** "(A jump that is not done only acts.)", though it would lead astray. */
    private static void branches() {
        int[][] pairs = {{1, 1}, {1, 2}, {2, 1}, {-1, 1}, {1, -1}, {MIN, MAX}, {MAX, MIN}, {-5, -5}};
        for (int[] p : pairs) {
            boolean lower = (p[0] & 0xFFFFFFFFL) < (p[1] & 0xFFFFFFFFL);
            boolean[] done = {p[0] == p[1], p[0] != p[1], false, false, p[0] < p[1], p[0] >= p[1], lower, !lower};
            for (int f : new int[] {0, 1, 4, 5, 6, 7}) {
                for (int offset : new int[] {64, 8, 4094 - 2, 0}) {
                    branchOf(f, p, done[f], offset);
                }
            }
        }
        CycleChip chip = Asm.chip(Asm.jal(0, 16));
        chip.poke(4, Asm.branch(0, 0, 0, -16));
        chip.run(13);
        Due.same("back", chip.pc(), 0);
    }

    /** n is -4096 .. 4094; "a jump that is done to an address t with bit 1 set raises TRAP 0 with t". */
    private static void leastAndGreatestBranch() {
        for (int offset : new int[] {-4096, -4092, -4, 4, 4088, 4092}) {
            CycleChip chip = Asm.chip(Asm.branch(0, 0, 0, offset));
            Due.same("branch by " + offset, chip.run(6), 1);
            Due.same("pc after a branch by " + offset, chip.pc(), offset);
        }
        for (int offset : new int[] {-4094, -2, 2, 4090, 4094}) {
            goesAstray(Asm.branch(0, 0, 0, offset), offset);
        }
    }

    private static void goesAstray(int w, int t) {
        CycleChip chip = Asm.chip(w);
        chip.give(3, 9);
        Due.same("astray to " + t, chip.run(6), 0);
        Due.same("astray to " + t + ", counted", chip.traps(), 1);
        Due.same("astray to " + t + ", cause", chip.control(Asm.MCAUSE), 0);
        Due.same("astray to " + t + ", value", chip.control(Asm.MTVAL), t);
        Due.same("astray to " + t + ", link", chip.register(3), 9);
    }

    private static void branchOf(int f, int[] p, boolean done, int offset) {
        CycleChip chip = Asm.chip(Asm.branch(f, 1, 2, offset));
        chip.give(1, p[0]);
        chip.give(2, p[1]);
        String what = "branch " + f + " of " + p[0] + " and " + p[1];
        Due.same(what + " acts", chip.run(6), 1);
        Due.same(what + " pc", chip.pc(), done ? offset : 4);
        chip = Asm.chip(Asm.branch(f, 1, 2, 6));
        chip.give(1, p[0]);
        chip.give(2, p[1]);
        Due.same(what + " astray acts", chip.run(6), done ? 0 : 1);
        Due.same(what + " astray trap", chip.traps(), done ? 1 : 0);
        Due.same(what + " astray value", chip.control(Asm.MTVAL), done ? 6 : 0);
    }

    private static void jumps() {
        for (int offset : new int[] {4, 64, 508, 512, -4, -1048576, 1048572, 2048, 4096}) {
            CycleChip chip = Asm.chip(Asm.jal(3, offset));
            Due.same("jal " + offset, chip.run(6), 1);
            Due.same("jal " + offset + " pc", chip.pc(), offset);
            Due.same("jal " + offset + " link", chip.register(3), 4);
        }
        for (int[] c : new int[][] {{64, 0, 64}, {65, 0, 64}, {64, 1, 64}, {64, -60, 4}, {MAX, 1, MIN}, {0, -4, -4},
            {0, 2044, 2044}, {-2048, -2048, -4096}}) {
            CycleChip chip = Asm.chip(Asm.jalr(1, 1, c[1]));
            chip.give(1, c[0]);
            Due.same("jalr", chip.run(6), 1);
            Due.same("jalr pc", chip.pc(), c[2]);
            Due.same("jalr link in the register of the address", chip.register(1), 4);
        }
    }

    /** j is -1048576 .. 1048574; "a jump that is done to an address t with bit 1 set raises TRAP 0 with t". */
    private static void leastAndGreatestJump() {
        for (int offset : new int[] {-1048576, -1048572, 1048568, 1048572}) {
            CycleChip chip = Asm.chip(Asm.jal(3, offset));
            Due.same("jump by " + offset, chip.run(6), 1);
            Due.same("pc after a jump by " + offset, chip.pc(), offset);
        }
        for (int offset : new int[] {-1048574, -2, 2, 6, 1048570, 1048574}) {
            goesAstray(Asm.jal(3, offset), offset);
        }
        for (int offset : new int[] {-2048, 2044, 2045}) {
            CycleChip chip = Asm.chip(Asm.jalr(3, 0, offset));
            Due.same("jump to " + offset, chip.run(6), 1);
            Due.same("pc after a jump to " + offset, chip.pc(), offset & -2);
        }
        for (int offset : new int[] {2, 3, 2046, 2047, -2046, -1}) {
            goesAstray(Asm.jalr(3, 0, offset), offset & -2);
        }
    }

    /** xd = PC + 4, though there is no word at that address. */
    private static void linkAtTheLastWord() {
        CycleChip chip = Asm.chip(Asm.jal(3, 508));
        chip.poke(127, Asm.jal(4, -508));
        chip.run(13);
        Due.same("link at 0", chip.register(3), 4);
        Due.same("link at 508", chip.register(4), 512);
        Due.same("back", chip.pc(), 0);
    }

    private static void loadsAndStores() {
        CycleChip chip = Asm.chip(Asm.lw(1, 2044, 1), Asm.lw(2, -4, 2), Asm.sw(1, -4, 3), Asm.sw(2, 31, 4), Asm.STAY);
        chip.give(1, 464 - 2044);
        chip.give(2, 512);
        chip.give(3, 488);
        chip.give(4, 461);
        chip.poke(116, 1160);
        chip.poke(127, 1270);
        chip.run(60);
        Due.same("load with a base below 0", chip.register(1), 1160);
        Due.same("load of the last word", chip.register(2), 1270);
        Due.same("store below its base", chip.peek(121), 1160);
        Due.same("store above its base", chip.peek(123), 1270);
        Due.same("no trap", chip.traps(), 0);
    }
}
