/** The timer's registers, seen through loads and stores. */
public final class DeviceTest {
    public static void main(String[] args) {
        timeIsLoaded();
        timeIsStored();
        timeWraps();
        lowWordCarries();
        compareIsUnsigned();
        timeAndCompare();
        compareIsKept();
        storesTouchOneRegister();
        Due.end();
    }

    private static void timeIsLoaded() {
        CycleChip chip = Asm.chip(Asm.deviceBase(), Asm.loadDevice(1, 0), Asm.loadDevice(2, 1), Asm.STAY);
        chip.run(40);
        Due.same("low word in cycle 8", chip.register(1), 8);
        Due.same("high word", chip.register(2), 0);
    }

    /** The stores are done in 8 and 10; the loads in 18 and 20. */
    private static void timeIsStored() {
        CycleChip chip = Asm.chip(Asm.deviceBase(), Asm.storeDevice(1, 0), Asm.storeDevice(2, 1), Asm.NOP,
            Asm.loadDevice(3, 0), Asm.loadDevice(4, 1), Asm.STAY);
        chip.give(1, -1);
        chip.give(2, 77);
        chip.run(40);
        Due.same("low word", chip.register(3), 9);
        Due.same("high word: the carry came before it was stored", chip.register(4), 77);
        Due.same("cycles are counted apart", chip.cycles(), 40);
        Due.same("CYCLE too", chip.control(Asm.CYCLE), 40);
        chip = Asm.chip(Asm.deviceBase(), Asm.storeDevice(2, 1), Asm.storeDevice(1, 0), Asm.NOP,
            Asm.loadDevice(3, 0), Asm.loadDevice(4, 1), Asm.STAY);
        chip.give(1, -5);
        chip.give(2, 77);
        chip.run(40);
        Due.same("low word", chip.register(3), 3);
        Due.same("high word with the carry", chip.register(4), 78);
    }

    /** "TIME (64 bits, wrapping)": it is all ones in the cycle in which its low word is stored, and 0 after it. */
    private static void timeWraps() {
        CycleChip chip = Asm.chip(Asm.deviceBase(), Asm.storeDevice(1, 1), Asm.storeDevice(1, 0), Asm.csrrs(3, Asm.MIP, 0),
            Asm.loadDevice(4, 1), Asm.STAY);
        chip.give(1, -1);
        chip.run(10);
        Due.same("not yet", chip.control(Asm.MIP), 0);
        chip.run(1);
        Due.same("within the cycle", chip.register(3), 128);
        Due.same("after it", chip.control(Asm.MIP), 0);
        chip.run(30);
        Due.same("high word", chip.register(4), 0);
    }

    /** "TIME (64 bits, wrapping) grows by 1": the low word wraps into the high one, which wraps too. */
    private static void lowWordCarries() {
        int[][] cases = {{0, -1, 1, 1}, {6, -2, 7, 0}, {6, -3, 6, -1}, {-1, -1, 0, 1}, {Integer.MAX_VALUE, -1, Integer.MIN_VALUE, 1}};
        for (int[] c : cases) {
            for (int r = 0; r < 2; r++) {
                CycleChip chip = Asm.chip(Asm.deviceBase(), Asm.storeDevice(1, 1), Asm.storeDevice(2, 0), Asm.loadDevice(3, r));
                chip.give(1, c[0]);
                chip.give(2, c[1]);
                chip.run(13);
                Due.same("TIME two cycles after " + c[0] + " " + c[1] + ", word " + r, chip.register(3), c[3 - r]);
            }
        }
    }

    /**
     * "TIME >= COMPARE (as numbers 0 .. 2^64 - 1)": of TIME and COMPARE, high word and low word, and what MIP is in the
     * cycle in which TIME was stored, and after it, when TIME is greater by 1.
     */
    private static void timeAndCompare() {
        int max = Integer.MAX_VALUE;
        int min = Integer.MIN_VALUE;
        int[][] cases = {{0, 5, 0, 5, 128, 128}, {0, 4, 0, 5, 0, 128}, {0, 3, 0, 5, 0, 0}, {0, 0, 0, 0, 128, 128},
            {0, -1, 1, 0, 0, 128}, {0, -1, 1, 1, 0, 0}, {1, 0, 0, -1, 128, 128}, {0, min, 0, max, 128, 128},
            {0, max, 0, min, 0, 128}, {min, 0, max, -1, 128, 128}, {max, -1, min, 0, 0, 128}, {max, -2, min, 0, 0, 0},
            {-1, -1, -1, -1, 128, 0}, {-1, -2, -1, -1, 0, 128}, {-1, -3, -1, -1, 0, 0}, {0, 0, -1, -1, 0, 0},
            {-1, -1, 0, 0, 128, 128}};
        for (int[] c : cases) {
            CycleChip chip = Asm.chip(Asm.deviceBase(), Asm.storeDevice(3, 3), Asm.storeDevice(4, 2), Asm.storeDevice(1, 1),
                Asm.storeDevice(2, 0), Asm.csrrs(5, Asm.MIP, 0), Asm.STAY);
            for (int k = 0; k < 4; k++) {
                chip.give(1 + k, c[k]);
            }
            chip.run(20);
            String what = "TIME " + c[0] + " " + c[1] + " COMPARE " + c[2] + " " + c[3];
            Due.same(what + " in the cycle", chip.register(5), c[4]);
            Due.same(what + " after it", chip.control(Asm.MIP), c[5]);
        }
    }

    /** "(as numbers 0 .. 2^64 - 1)": a COMPARE and a TIME with their highest bits set. */
    private static void compareIsUnsigned() {
        int[][] cases = {{0, 5, 128}, {0, 500, 0}, {-1, 5, 0}, {1, 0, 0}, {Integer.MIN_VALUE, 0, 0}, {0, -1, 0}};
        for (int[] c : cases) {
            CycleChip chip = Asm.chip(Asm.deviceBase(), Asm.storeDevice(1, 3), Asm.storeDevice(2, 2), Asm.STAY);
            chip.give(1, c[0]);
            chip.give(2, c[1]);
            chip.run(60);
            Due.same("COMPARE " + c[0] + " " + c[1], chip.control(Asm.MIP), c[2]);
        }
        CycleChip chip = Asm.chip(Asm.deviceBase(), Asm.storeDevice(1, 1), Asm.storeDevice(0, 3), Asm.STAY);
        chip.give(1, -1);
        chip.run(60);
        Due.same("TIME with its highest bit", chip.control(Asm.MIP), 128);
    }

    /** Of the registers that keep what is stored, a store changes its own alone; OVERRUN counts as one. */
    private static void storesTouchOneRegister() {
        int[] keeping = {2, 3, 4, 5, 8, 14, 15, 13};
        int[] preset = {1001, 1002, 36, 2, 0x01234560, 77, 0, 4};
        int[] masks = {-1, -1, 254, 7, 0x77777770, 255, 3, 0};
        int v = 0x7A5B6C55;
        for (int r = 0; r < 16; r++) {
            if (r == 6) {
                continue;
            }
            CycleChip chip = Asm.chip(Asm.deviceBase());
            int p = 1;
            for (int k = 0; k < 7; k++) {
                chip.give(1 + k, preset[k]);
                chip.poke(p++, Asm.storeDevice(1 + k, keeping[k]));
            }
            chip.give(30, v);
            chip.poke(p++, Asm.storeDevice(30, r));
            for (int k = 0; k < 8; k++) {
                chip.poke(p++, Asm.loadDevice(10 + k, keeping[k]));
            }
            chip.poke(p, Asm.STAY);
            for (int k = 0; k < 9; k++) {
                chip.plan(k, 0, k);
            }
            chip.run(200);
            for (int k = 0; k < 7; k++) {
                int want = keeping[k] == r ? v & masks[k] : preset[k];
                Due.same("register " + keeping[k] + " after a store in " + r, chip.register(10 + k), want);
            }
            Due.same("OVERRUN after a store in " + r, chip.register(17) & 4, r == 13 ? 0 : 4);
            Due.same("received after a store in " + r, chip.queued(false), 8);
            Due.same("a byte is sent after a store in " + r, chip.register(17) & 8, r == 12 ? 8 : 0);
            Due.same("no trap", chip.traps(), 0);
        }
    }

    private static void compareIsKept() {
        CycleChip chip = Asm.chip(Asm.deviceBase(), Asm.storeDevice(1, 2), Asm.storeDevice(2, 3), Asm.loadDevice(3, 2),
            Asm.loadDevice(4, 3), Asm.STAY);
        chip.give(1, -17);
        chip.give(2, 0x12345678);
        chip.run(60);
        Due.same("low word", chip.register(3), -17);
        Due.same("high word", chip.register(4), 0x12345678);
    }
}
