/** Promises 5, 6, 7: give, register, pc. */
public final class RegistersTest {
    private static final int[] NO_REGISTERS = {-1, -32, 32, 33, 64, Integer.MIN_VALUE, Integer.MAX_VALUE};

    public static void main(String[] args) {
        giveAndRegister();
        giveToNoRegister();
        noRegister();
        registerZeroOfGive();
        registerZeroOfInstructions();
        firstAndLastRegisterOfInstructions();
        pcFollows();
        settledBeforeGive();
        notSettledBeforeGive();
        Due.end();
    }

    private static int valueFor(int k) {
        return 100 - k * 7;
    }

    private static CycleChip given() {
        CycleChip chip = new CycleChip(1, 8);
        for (int k = 0; k < 32; k++) {
            Due.same("give " + k, chip.give(k, valueFor(k)), true);
        }
        return chip;
    }

    private static void giveAndRegister() {
        CycleChip chip = given();
        for (int k = 1; k < 32; k++) {
            Due.same("register " + k, chip.register(k), valueFor(k));
        }
        for (int v : new int[] {Integer.MIN_VALUE, -1, 0, 1, Integer.MAX_VALUE}) {
            Due.same("give", chip.give(31, v), true);
            Due.same("the last register", chip.register(31), v);
        }
    }

    /** give: "false when k is not 0 .. 31", and nothing changes. */
    private static void giveToNoRegister() {
        CycleChip chip = given();
        for (int k : NO_REGISTERS) {
            Due.same("give " + k, chip.give(k, 1), false);
        }
        for (int k = 1; k < 32; k++) {
            Due.same("register after refusals " + k, chip.register(k), valueFor(k));
        }
        Due.same("register 0 after refusals", chip.register(0), 0);
    }

    /** register: "0 when k is not 0 .. 31". */
    private static void noRegister() {
        CycleChip chip = given();
        for (int k : NO_REGISTERS) {
            Due.same("register " + k, chip.register(k), 0);
        }
    }

    /** "Register k becomes v (register 0 stays 0): true". */
    private static void registerZeroOfGive() {
        CycleChip chip = Asm.chip(Asm.add(1, 0, 0));
        chip.give(1, 9);
        Due.same("give 0", chip.give(0, 5), true);
        Due.same("register 0 after give", chip.register(0), 0);
        chip.run(6);
        Due.same("register 0 as an instruction sees it", chip.register(1), 0);
    }

    /** "register 0 is always 0", whatever an instruction would put there. */
    private static void registerZeroOfInstructions() {
        int[] words = {Asm.lui(0, -4096), Asm.auipc(0, 4096), Asm.jal(0, 4), Asm.jalr(0, 0, 4), Asm.li(0, 5),
            Asm.add(0, 31, 31), Asm.mul(0, 31, 31), Asm.div(0, 31, 31), Asm.lw(0, 0, 0), Asm.loadDevice(0, 14),
            Asm.csrrs(0, Asm.CYCLE, 0), Asm.csrrwi(0, Asm.MSCRATCH, 3)};
        for (int w : words) {
            CycleChip chip = Asm.chip(w, Asm.add(1, 0, 0), Asm.STAY);
            chip.give(1, 9);
            chip.give(31, 4096);
            chip.run(30);
            Due.same("register 0 after " + w, chip.register(0), 0);
            Due.same("register 0 as seen after " + w, chip.register(1), 0);
            Due.same("no trap of " + w, chip.traps(), 0);
        }
    }

    /** The fields d, a, b reach register 31. */
    private static void firstAndLastRegisterOfInstructions() {
        CycleChip chip = Asm.chip(Asm.add(31, 31, 30), Asm.add(1, 30, 31));
        chip.give(31, 5);
        chip.give(30, 70);
        chip.run(7);
        Due.same("register 31", chip.register(31), 75);
        Due.same("register 1", chip.register(1), 145);
    }

    private static void pcFollows() {
        CycleChip chip = Asm.chip(Asm.NOP, Asm.jal(5, 60));
        chip.poke(16, Asm.jalr(6, 5, 500));
        chip.run(5);
        Due.same("pc while the code comes", chip.pc(), 0);
        chip.run(1);
        Due.same("pc after one", chip.pc(), 4);
        chip.run(1);
        Due.same("pc after the jump", chip.pc(), 64);
        Due.same("link", chip.register(5), 8);
        chip.run(7);
        Due.same("pc after the second jump", chip.pc(), 508);
        Due.same("second link", chip.register(6), 68);
    }

    /** "(what is to be stored, where, and d are settled now)": in the cycle in which DEVICE is wanted (6). */
    private static void settledBeforeGive() {
        CycleChip chip = Asm.chip(Asm.deviceBase(), Asm.storeDevice(1, 14), Asm.loadDevice(2, 14), Asm.STAY);
        chip.give(1, 77);
        chip.run(7);
        chip.give(1, 5);
        chip.give(31, 0);
        chip.run(1);
        chip.give(31, 4096);
        chip.run(20);
        Due.same("the divisor settled", chip.register(2), 77);
        Due.same("no trap", chip.traps(), 0);
    }

    /** A load from the memory is done anew when its block has come (11). */
    private static void notSettledBeforeGive() {
        CycleChip chip = Asm.chip(Asm.NOP, Asm.lw(2, 0, 1), Asm.STAY);
        chip.give(1, 256);
        Asm.put(chip, 64, 11, 12);
        chip.run(9);
        chip.give(1, 260);
        chip.run(10);
        Due.same("the address after give", chip.register(2), 12);
        Due.same("one load only", chip.register(1), 260);
    }
}
