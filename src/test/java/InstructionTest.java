/** The instructions of the document's terms: their results, their edges, and words that are none. */
public final class InstructionTest {
    private static final int MIN = Integer.MIN_VALUE;
    private static final int MAX = Integer.MAX_VALUE;

    public static void main(String[] args) {
        plain();
        constants();
        products();
        quotients();
        upperParts();
        branches();
        jumps();
        loadsAndStores();
        noInstructions();
        Due.end();
    }

    /** What register 3 becomes by the word, with registers 1 and 2 as told. */
    private static void gives(String what, int w, int xa, int xb, int want) {
        CycleChip chip = Asm.chip(w);
        chip.give(1, xa);
        chip.give(2, xb);
        chip.give(3, 123456789);
        Due.same(what + " acts", chip.run(6), 1);
        Due.same(what + " of " + xa + " and " + xb, chip.register(3), want);
        Due.same(what + " pc", chip.pc(), 4);
        Due.same(what + " leaves register 1", chip.register(1), xa);
        Due.same(what + " leaves register 2", chip.register(2), xb);
    }

    private static void plainOf(int f, int g, int xa, int xb, int want) {
        gives("51 f " + f + " g " + g, Asm.r(51, f, g, 3, 1, 2), xa, xb, want);
    }

    private static void plain() {
        plainOf(0, 0, 5, 7, 12);
        plainOf(0, 0, MAX, 1, MIN);
        plainOf(0, 32, 5, 7, -2);
        plainOf(0, 32, MIN, 1, MAX);
        plainOf(1, 0, 3, 4, 48);
        plainOf(1, 0, 3, 31, MIN);
        plainOf(1, 0, 3, 32, 3);
        plainOf(1, 0, 3, -31, 6);
        plainOf(2, 0, -1, 1, 1);
        plainOf(2, 0, 1, -1, 0);
        plainOf(2, 0, 1, 1, 0);
        plainOf(2, 0, MIN, MAX, 1);
        plainOf(3, 0, -1, 1, 0);
        plainOf(3, 0, 1, -1, 1);
        plainOf(3, 0, 7, 7, 0);
        plainOf(3, 0, MIN, MAX, 0);
        plainOf(4, 0, 0b1100, 0b1010, 0b0110);
        plainOf(5, 0, -16, 4, 0x0FFFFFFF);
        plainOf(5, 0, -16, 36, 0x0FFFFFFF);
        plainOf(5, 32, -16, 4, -1);
        plainOf(5, 32, -16, 33, -8);
        plainOf(6, 0, 0b1100, 0b1010, 0b1110);
        plainOf(7, 0, 0b1100, 0b1010, 0b1000);
    }

    private static void constantOf(int f, int constant, int xa, int want) {
        gives("19 f " + f + " with " + constant, Asm.i(19, f, 3, 1, constant), xa, 55, want);
    }

    private static void constants() {
        constantOf(0, 2047, 1, 2048);
        constantOf(0, -2048, 1, -2047);
        constantOf(0, 1024, 1, 1025);
        constantOf(0, 32, 1, 33);
        constantOf(1, 31, 1, MIN);
        constantOf(1, 0, -7, -7);
        constantOf(2, -1, -2, 1);
        constantOf(2, -1, 0, 0);
        constantOf(3, -1, 0, 1);
        constantOf(3, -1, -1, 0);
        constantOf(3, 5, 4, 1);
        constantOf(4, -1, 5, -6);
        constantOf(5, 28, MIN, 8);
        constantOf(5, 1024 + 28, MIN, -8);
        constantOf(5, 1024, MIN, MIN);
        constantOf(6, -2048, 5, -2043);
        constantOf(7, -2048, 4095, 2048);
    }

    private static void products() {
        int[][] cases = {{3, -5, -15, -1, 2, 2}, {-3, 5, -15, -1, -1, 4}, {-1, -1, 1, 0, -1, -2},
            {MIN, MIN, 0, 0x40000000, -0x40000000, 0x40000000}, {MIN, -1, MIN, 0, MIN, MAX},
            {MAX, MAX, 1, 0x3FFFFFFF, 0x3FFFFFFF, 0x3FFFFFFF}, {0, -1, 0, 0, 0, 0}, {65536, 65536, 0, 1, 1, 1},
            {-1, 1, -1, -1, -1, 0}, {1, -1, -1, -1, 0, 0}};
        for (int[] c : cases) {
            for (int f = 0; f < 4; f++) {
                plainOf(f, 1, c[0], c[1], c[2 + f]);
            }
        }
    }

    private static void quotients() {
        int[][] cases = {{7, 2, 3, 3, 1, 1}, {-7, 2, -3, MAX - 3, -1, 1}, {7, -2, -3, 0, 1, 7}, {-7, -2, 3, 0, -1, -7},
            {9, 0, -1, -1, 9, 9}, {-9, 0, -1, -1, -9, -9}, {0, 0, -1, -1, 0, 0}, {MIN, -1, MIN, 0, 0, MIN},
            {MIN, 0, -1, -1, MIN, MIN}, {-1, MIN, 0, 1, -1, MAX}, {-1, -1, 1, 1, 0, 0}, {-2, 3, 0, 1431655764, -2, 2}};
        for (int[] c : cases) {
            for (int f = 4; f < 8; f++) {
                plainOf(f, 1, c[0], c[1], c[f - 2]);
            }
        }
    }

    private static void upperParts() {
        gives("lui", Asm.lui(3, 0x12345000), 1, 2, 0x12345000);
        gives("lui of -4096", Asm.lui(3, -4096), 1, 2, -4096);
        gives("auipc at 0", Asm.auipc(3, 0x7000), 1, 2, 0x7000);
        CycleChip chip = Asm.chip(Asm.NOP, Asm.NOP, Asm.auipc(3, -4096));
        chip.run(8);
        Due.same("auipc at 8", chip.register(3), -4088);
    }

    private static void branches() {
        int[][] pairs = {{1, 1}, {1, 2}, {2, 1}, {-1, 1}, {1, -1}, {MIN, MAX}, {MAX, MIN}, {-5, -5}};
        for (int[] p : pairs) {
            boolean lower = (p[0] & 0xFFFFFFFFL) < (p[1] & 0xFFFFFFFFL);
            boolean[] done = {p[0] == p[1], p[0] != p[1], false, false, p[0] < p[1], p[0] >= p[1], lower, !lower};
            for (int f : new int[] {0, 1, 4, 5, 6, 7}) {
                for (int offset : new int[] {64, 8, 4094 - 2, 0}) {
                    branchOf(f, p, done[f], offset);
                }
            }
        }
        CycleChip chip = Asm.chip(Asm.jal(0, 16));
        chip.poke(4, Asm.branch(0, 0, 0, -16));
        chip.run(13);
        Due.same("back", chip.pc(), 0);
    }

    private static void branchOf(int f, int[] p, boolean done, int offset) {
        CycleChip chip = Asm.chip(Asm.branch(f, 1, 2, offset));
        chip.give(1, p[0]);
        chip.give(2, p[1]);
        String what = "branch " + f + " of " + p[0] + " and " + p[1];
        Due.same(what + " acts", chip.run(6), 1);
        Due.same(what + " pc", chip.pc(), done ? offset : 4);
        chip = Asm.chip(Asm.branch(f, 1, 2, 6));
        chip.give(1, p[0]);
        chip.give(2, p[1]);
        Due.same(what + " astray acts", chip.run(6), done ? 0 : 1);
        Due.same(what + " astray trap", chip.traps(), done ? 1 : 0);
        Due.same(what + " astray value", chip.control(Asm.MTVAL), done ? 6 : 0);
    }

    private static void jumps() {
        for (int offset : new int[] {4, 64, 508, 512, -4, -1048576, 1048572, 2048, 4096}) {
            CycleChip chip = Asm.chip(Asm.jal(3, offset));
            Due.same("jal " + offset, chip.run(6), 1);
            Due.same("jal " + offset + " pc", chip.pc(), offset);
            Due.same("jal " + offset + " link", chip.register(3), 4);
        }
        for (int[] c : new int[][] {{64, 0, 64}, {65, 0, 64}, {64, 1, 64}, {64, -60, 4}, {MAX, 1, MIN}, {0, -4, -4},
            {0, 2044, 2044}, {-2048, -2048, -4096}}) {
            CycleChip chip = Asm.chip(Asm.jalr(1, 1, c[1]));
            chip.give(1, c[0]);
            Due.same("jalr", chip.run(6), 1);
            Due.same("jalr pc", chip.pc(), c[2]);
            Due.same("jalr link in the register of the address", chip.register(1), 4);
        }
        CycleChip chip = Asm.chip(Asm.jal(3, 6));
        chip.give(3, 9);
        Due.same("jal astray", chip.run(6), 0);
        Due.same("jal astray leaves the link", chip.register(3), 9);
        Due.same("jal astray cause", chip.control(Asm.MCAUSE), 0);
        Due.same("jal astray value", chip.control(Asm.MTVAL), 6);
        Due.same("jal astray counted", chip.traps(), 1);
        chip = Asm.chip(Asm.jalr(3, 1, 3));
        chip.give(1, 64);
        chip.run(6);
        Due.same("jalr astray value", chip.control(Asm.MTVAL), 66);
    }

    private static void loadsAndStores() {
        CycleChip chip = Asm.chip(Asm.lw(1, 2044, 1), Asm.lw(2, -4, 2), Asm.sw(1, -4, 3), Asm.sw(2, 31, 4), Asm.STAY);
        chip.give(1, 464 - 2044);
        chip.give(2, 512);
        chip.give(3, 488);
        chip.give(4, 461);
        chip.poke(116, 1160);
        chip.poke(127, 1270);
        chip.run(60);
        Due.same("load with a base below 0", chip.register(1), 1160);
        Due.same("load of the last word", chip.register(2), 1270);
        Due.same("store below its base", chip.peek(121), 1160);
        Due.same("store above its base", chip.peek(123), 1270);
        Due.same("no trap", chip.traps(), 0);
    }

    private static void noInstructions() {
        int[] words = {0, -1, 1, 2, 0x7F, 4, 7, 11, 18, 51 | 2 << 25, 51 | 33 << 25, 51 | 64 << 25, 51 | 127 << 25,
            Asm.r(51, 1, 32, 3, 1, 2), Asm.r(51, 2, 32, 3, 1, 2), Asm.r(51, 4, 32, 3, 1, 2), Asm.r(51, 7, 32, 3, 1, 2),
            Asm.r(51, 5, 33, 3, 1, 2), Asm.r(19, 1, 32, 3, 1, 2), Asm.r(19, 1, 1, 3, 1, 2), Asm.r(19, 5, 1, 3, 1, 2),
            Asm.r(19, 5, 33, 3, 1, 2), Asm.r(19, 5, 64, 3, 1, 2), Asm.i(103, 1, 3, 1, 0), Asm.i(103, 7, 3, 1, 0),
            Asm.branch(2, 0, 0, 4), Asm.branch(3, 0, 0, 4), Asm.i(3, 0, 3, 0, 1), Asm.i(3, 1, 3, 0, 0),
            Asm.i(3, 4, 3, 0, 0), Asm.i(3, 5, 3, 0, 0), Asm.r(35, 0, 0, 0, 0, 0), Asm.r(35, 1, 0, 1, 0, 0),
            Asm.r(35, 3, 0, 0, 0, 0), Asm.ECALL | 128, Asm.EBREAK | 1 << 15, Asm.MRET + (1 << 20), Asm.WFI | 1 << 7,
            115 | 2 << 20, Asm.i(115, 4, 3, 1, Asm.MSCRATCH), Asm.i(115, 4, 0, 0, 0)};
        for (int w : words) {
            CycleChip chip = Asm.chip(w);
            chip.give(1, 64);
            chip.give(3, 5);
            Due.same("none: " + w, chip.run(6), 0);
            Due.same("none, counted: " + w, chip.traps(), 1);
            Due.same("none, cause: " + w, chip.control(Asm.MCAUSE), 2);
            Due.same("none, value: " + w, chip.control(Asm.MTVAL), w);
            Due.same("none, register: " + w, chip.register(3), 5);
            Due.same("none, store: " + w, chip.stores(), 0);
        }
    }
}
