/** Loads and stores at the edges of the addresses: words of the memory, device registers, and neither. */
public final class AddressTest {
    private static final int MIN = Integer.MIN_VALUE;
    private static final int MAX = Integer.MAX_VALUE;

    public static void main(String[] args) {
        firstAndLastWord();
        noWordBelowOrAbove();
        firstAndLastDeviceRegister();
        noDeviceRegisterBelowOrAbove();
        noMultipleOfFour();
        noMultipleOfFourComesFirst();
        leastAndGreatestOffset();
        addressesWrap();
        trapsLeaveTheBufferAlone();
        Due.end();
    }

    /** A chip that has loaded from (or stored register 2 at) the address in register 1, or trapped. */
    private static CycleChip after(boolean storing, int address) {
        CycleChip chip = Asm.chip(storing ? Asm.sw(2, 0, 1) : Asm.lw(2, 0, 1), Asm.STAY);
        chip.give(1, address);
        chip.give(2, 7);
        Asm.put(chip, 125, 1250, 1260, 1270);
        return chip;
    }

    private static void traps(boolean storing, int address, int cause) {
        CycleChip chip = after(storing, address);
        String what = (storing ? "store at " : "load from ") + address;
        Due.same(what + " does not act", chip.run(6), 0);
        Due.same(what + " traps", chip.traps(), 1);
        Due.same(what + " cause", chip.control(Asm.MCAUSE), cause);
        Due.same(what + " value", chip.control(Asm.MTVAL), address);
        Due.same(what + " leaves the register", chip.register(2), 7);
        Due.same(what + " leaves the buffer", chip.stores(), 0);
        chip.run(1);
        Due.same(what + " wants nothing", chip.bus(), 0);
    }

    /** "The MEMORY has the words 0 .. 127, word p at the address 4 * p." */
    private static void firstAndLastWord() {
        int[][] cases = {{0, Asm.lw(2, 0, 1)}, {504, 1260}, {508, 1270}};
        for (int[] c : cases) {
            CycleChip chip = after(false, c[0]);
            chip.run(30);
            Due.same("loaded from " + c[0], chip.register(2), c[1]);
            Due.same("no trap at " + c[0], chip.traps(), 0);
            chip = after(true, c[0]);
            chip.run(30);
            Due.same("stored at " + c[0], chip.peek(c[0] / 4), 7);
            Due.same("no trap at " + c[0], chip.traps(), 0);
        }
    }

    /** "if t is an address of neither a word nor a device register, TRAP 5 or 7 with t": below 0 and from 512 on. */
    private static void noWordBelowOrAbove() {
        for (int address : new int[] {-4, -8, -512, -4096, MIN, 512, 516, 1024, MAX - 3}) {
            traps(false, address, 5);
            traps(true, address, 7);
        }
    }

    /** "The DEVICE REGISTERS 0 .. 15 lie at the addresses 4096 + 4 * r." */
    private static void firstAndLastDeviceRegister() {
        CycleChip chip = after(false, 4096);
        chip.run(30);
        Due.same("TIME, in cycle 7", chip.register(2), 7);
        chip = Asm.chip(Asm.sw(2, 0, 1), Asm.lw(3, 0, 1), Asm.STAY);
        chip.give(1, 4156);
        chip.give(2, 2);
        chip.run(30);
        Due.same("ENABLES", chip.register(3), 2);
        Due.same("no trap", chip.traps(), 0);
        chip = Asm.chip(Asm.sw(2, 0, 1), Asm.lw(3, 0, 1), Asm.STAY);
        chip.give(1, 4096);
        chip.give(2, 1000);
        chip.run(30);
        Due.same("TIME, two cycles after it was stored", chip.register(3), 1002);
    }

    /** "if t is an address of neither a word nor a device register, TRAP 5 or 7 with t": beside the device registers. */
    private static void noDeviceRegisterBelowOrAbove() {
        for (int address : new int[] {4088, 4092, 4160, 4164, 8192, 4096 + 65536, MIN + 4096, 4096 - 65536}) {
            traps(false, address, 5);
            traps(true, address, 7);
        }
    }

    /** "if t is no multiple of 4, TRAP 4 (loading) or 6 (storing) with t": within words and device registers. */
    private static void noMultipleOfFour() {
        for (int address : new int[] {1, 2, 3, 5, 505, 506, 507, 509, 510, 511, 4097, 4098, 4099, 4157, 4159}) {
            traps(false, address, 4);
            traps(true, address, 6);
        }
    }

    /** "First: if t is no multiple of 4 ... else if t is an address of neither": the first of the two counts. */
    private static void noMultipleOfFourComesFirst() {
        for (int address : new int[] {-1, -2, -3, 513, 4093, 4094, 4095, 4161, MIN + 1, MAX, MAX - 1, MAX - 2}) {
            traps(false, address, 4);
            traps(true, address, 6);
        }
    }

    /** "t = xa + i", "t = xa + s", with i and s from -2048 to 2047. */
    private static void leastAndGreatestOffset() {
        int[][] cases = {{2048, -2048, 0}, {2556, -2048, 508}, {-2044 + 508, 2044, 508}, {-2047 + 500, 2047, 500},
            {500 + 1, -1, 500}, {500 - 31, 31, 500}, {500 - 32, 32, 500}, {500 + 32, -32, 500}, {500 + 33, -33, 500}};
        for (int[] c : cases) {
            CycleChip chip = Asm.chip(Asm.lw(3, c[1], 1), Asm.sw(2, c[1], 1), Asm.STAY);
            chip.give(1, c[0]);
            chip.give(2, 5);
            int old = chip.peek(c[2] / 4);
            chip.run(40);
            Due.same("loaded from " + c[0] + " and " + c[1], chip.register(3), old);
            Due.same("stored at " + c[0] + " and " + c[1], chip.peek(c[2] / 4), 5);
            Due.same("no trap", chip.traps(), 0);
        }
    }

    /** "Ints wrap.": so does xa + i, from the greatest int to the least, and from -4 to 0. */
    private static void addressesWrap() {
        CycleChip chip = Asm.chip(Asm.lw(3, 2044, 1), Asm.sw(2, 2040, 1), Asm.STAY);
        chip.give(1, -2044);
        chip.give(2, 5);
        chip.run(40);
        Due.same("loaded from 0", chip.register(3), Asm.lw(3, 2044, 1));
        Due.same("-4 is none", chip.control(Asm.MTVAL), -4);
        int[][] cases = {{MAX, 1, MIN}, {MAX - 3, 2044, MIN + 2040}, {MIN, -4, MAX - 3}, {MIN, -1, MAX}};
        for (int[] c : cases) {
            int part = c[2] % 4 == 0 ? 1 : 0;
            CycleChip load = Asm.chip(Asm.lw(3, c[1], 1));
            load.give(1, c[0]);
            load.run(6);
            Due.same("load wraps to " + c[2], load.control(Asm.MTVAL), c[2]);
            Due.same("load's cause at " + c[2], load.control(Asm.MCAUSE), 4 + part);
            CycleChip store = Asm.chip(Asm.sw(3, c[1], 1));
            store.give(1, c[0]);
            store.run(6);
            Due.same("store wraps to " + c[2], store.control(Asm.MTVAL), c[2]);
            Due.same("store's cause at " + c[2], store.control(Asm.MCAUSE), 6 + part);
        }
    }

    /** "First: ..." the traps, then whether it holds: with a full buffer an address astray is a trap all the same. */
    private static void trapsLeaveTheBufferAlone() {
        int[][] cases = {{Asm.lw(3, 2, 0), 4}, {Asm.lw(3, 512, 0), 5}, {Asm.sw(3, 2, 0), 6}, {Asm.sw(3, 512, 0), 7}};
        for (int[] c : cases) {
            CycleChip chip = new CycleChip(8, 8);
            Asm.put(chip, 0, Asm.sw(1, 256, 0), Asm.sw(1, 260, 0), c[0]);
            chip.run(36);
            Due.same("two stores", chip.stores(), 2);
            Due.same("trap at once", chip.traps(), 1);
            Due.same("cause", chip.control(Asm.MCAUSE), c[1]);
            Due.same("address", chip.control(Asm.MEPC), 8);
        }
    }
}
