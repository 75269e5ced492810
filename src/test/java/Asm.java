/** Words of instructions, so that the tests can be read; the names are those of RV32IM. */
final class Asm {
    static final int MSTATUS = 768;
    static final int MIE = 772;
    static final int MTVEC = 773;
    static final int MSCRATCH = 832;
    static final int MEPC = 833;
    static final int MCAUSE = 834;
    static final int MTVAL = 835;
    static final int MIP = 836;
    static final int CYCLE = 3072;
    static final int ECALL = 115;
    static final int EBREAK = 1048691;
    static final int MRET = 807403635;
    static final int WFI = 273678451;
    static final int FENCE = 15;
    static final int FENCE_I = 15 | 1 << 12;
    static final int NOP = 19;
    static final int STAY = 111;

    private Asm() {
    }

    static int i(int o, int f, int d, int a, int constant) {
        return o | d << 7 | f << 12 | a << 15 | constant << 20;
    }

    static int r(int o, int f, int g, int d, int a, int b) {
        return o | d << 7 | f << 12 | a << 15 | b << 20 | g << 25;
    }

    static int addi(int d, int a, int constant) {
        return i(19, 0, d, a, constant);
    }

    static int li(int d, int constant) {
        return addi(d, 0, constant);
    }

    static int add(int d, int a, int b) {
        return r(51, 0, 0, d, a, b);
    }

    static int mul(int d, int a, int b) {
        return r(51, 0, 1, d, a, b);
    }

    static int div(int d, int a, int b) {
        return r(51, 4, 1, d, a, b);
    }

    static int lui(int d, int u) {
        return 55 | d << 7 | u & -4096;
    }

    static int auipc(int d, int u) {
        return 23 | d << 7 | u & -4096;
    }

    static int lw(int d, int offset, int a) {
        return i(3, 2, d, a, offset);
    }

    static int sw(int b, int offset, int a) {
        return r(35, 2, offset >> 5 & 127, offset & 31, a, b);
    }

    static int branch(int f, int a, int b, int offset) {
        return 99 | f << 12 | a << 15 | b << 20 | (offset >> 11 & 1) << 7 | (offset >> 1 & 15) << 8
            | (offset >> 5 & 63) << 25 | (offset >> 12 & 1) << 31;
    }

    static int jal(int d, int offset) {
        return 111 | d << 7 | (offset >> 12 & 255) << 12 | (offset >> 11 & 1) << 20
            | (offset >> 1 & 1023) << 21 | (offset >> 20 & 1) << 31;
    }

    static int jalr(int d, int a, int offset) {
        return i(103, 0, d, a, offset);
    }

    static int csrrw(int d, int n, int a) {
        return i(115, 1, d, a, n);
    }

    static int csrrs(int d, int n, int a) {
        return i(115, 2, d, a, n);
    }

    static int csrrc(int d, int n, int a) {
        return i(115, 3, d, a, n);
    }

    static int csrrwi(int d, int n, int a) {
        return i(115, 5, d, a, n);
    }

    static int csrrsi(int d, int n, int a) {
        return i(115, 6, d, a, n);
    }

    static int csrrci(int d, int n, int a) {
        return i(115, 7, d, a, n);
    }

    /** Register 31 becomes 4096, so that device register r lies at r * 4 from it. */
    static int deviceBase() {
        return lui(31, 4096);
    }

    static int loadDevice(int d, int r) {
        return lw(d, 4 * r, 31);
    }

    static int storeDevice(int b, int r) {
        return sw(b, 4 * r, 31);
    }

    /** Puts the words into the memory, the first as word p. */
    static void put(CycleChip chip, int p, int... words) {
        for (int k = 0; k < words.length; k++) {
            chip.poke(p + k, words[k]);
        }
    }

    /** A new chip of latency 1 and 8 lines with these words from word 0 on. */
    static CycleChip chip(int... words) {
        CycleChip chip = new CycleChip(1, 8);
        put(chip, 0, words);
        return chip;
    }
}
