/** Promises 5, 6, 7: give, register, pc. */
public final class RegistersTest {
    public static void main(String[] args) {
        giveAndRegister();
        registerZero();
        pcFollows();
        settledBeforeGive();
        notSettledBeforeGive();
        Due.end();
    }

    private static void giveAndRegister() {
        CycleChip chip = new CycleChip(1, 8);
        for (int k = 0; k < 32; k++) {
            Due.same("give " + k, chip.give(k, 100 - k * 7), true);
        }
        for (int k = 1; k < 32; k++) {
            Due.same("register " + k, chip.register(k), 100 - k * 7);
        }
        for (int k : new int[] {-1, 32, 33, Integer.MIN_VALUE, Integer.MAX_VALUE}) {
            Due.same("give refused " + k, chip.give(k, 1), false);
            Due.same("register refused " + k, chip.register(k), 0);
        }
        for (int k = 1; k < 32; k++) {
            Due.same("register after refusals " + k, chip.register(k), 100 - k * 7);
        }
    }

    private static void registerZero() {
        CycleChip chip = Asm.chip(Asm.li(0, 5), Asm.add(1, 0, 0), Asm.lw(0, 0, 0), Asm.jal(0, 4), Asm.STAY);
        chip.give(1, 9);
        Due.same("give 0", chip.give(0, 5), true);
        Due.same("register 0 after give", chip.register(0), 0);
        chip.run(6);
        Due.same("register 0 after li", chip.register(0), 0);
        chip.run(1);
        Due.same("register 0 read", chip.register(1), 0);
        chip.run(20);
        Due.same("register 0 after load and jump", chip.register(0), 0);
    }

    private static void pcFollows() {
        CycleChip chip = Asm.chip(Asm.NOP, Asm.jal(5, 60));
        chip.poke(16, Asm.jalr(6, 5, 500));
        chip.run(5);
        Due.same("pc while the code comes", chip.pc(), 0);
        chip.run(1);
        Due.same("pc after one", chip.pc(), 4);
        chip.run(1);
        Due.same("pc after the jump", chip.pc(), 64);
        Due.same("link", chip.register(5), 8);
        chip.run(7);
        Due.same("pc after the second jump", chip.pc(), 508);
        Due.same("second link", chip.register(6), 68);
    }

    /** What is stored in a device register is settled in the cycle in which it is wanted (6). */
    private static void settledBeforeGive() {
        CycleChip chip = Asm.chip(Asm.deviceBase(), Asm.storeDevice(1, 14), Asm.loadDevice(2, 14), Asm.STAY);
        chip.give(1, 77);
        chip.run(7);
        chip.give(1, 5);
        chip.give(31, 0);
        chip.run(1);
        chip.give(31, 4096);
        chip.run(20);
        Due.same("the divisor settled", chip.register(2), 77);
        Due.same("no trap", chip.traps(), 0);
    }

    /** A load from the memory is done anew when its block has come (11). */
    private static void notSettledBeforeGive() {
        CycleChip chip = Asm.chip(Asm.NOP, Asm.lw(2, 0, 1), Asm.STAY);
        chip.give(1, 256);
        Asm.put(chip, 64, 11, 12);
        chip.run(9);
        chip.give(1, 260);
        chip.run(10);
        Due.same("the address after give", chip.register(2), 12);
        Due.same("one load only", chip.register(1), 260);
    }
}
