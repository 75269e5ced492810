/** Promise 8: control, and what the control registers keep of what is stored. */
public final class ControlTest {
    private static final int[] ALL = {768, 772, 773, 832, 833, 834, 835, 836, 3072};

    public static void main(String[] args) {
        bitsThatAreKept();
        waysOfStoring();
        readsThatStoreNothing();
        cycleIsNotStored();
        interruptBitsAreNotStored();
        controlOfNoRegister();
        instructionsOfNoRegister();
        cycleCount();
        timerBit();
        outsideBit();
        Due.end();
    }

    /** "with the bits that are kept of what is stored". */
    private static void bitsThatAreKept() {
        int[] kept = {136, 2176, -3, -1, -4, -1, -1, 0};
        for (int k = 0; k < kept.length; k++) {
            for (int v : new int[] {-1, 0x55555555, 0xAAAAAAAA, 8, 128, 2, 3, 2048}) {
                CycleChip chip = Asm.chip(Asm.csrrw(0, ALL[k], 1), Asm.csrrs(2, ALL[k], 0), Asm.STAY);
                chip.give(1, v);
                chip.run(6);
                Due.same("control " + ALL[k] + " after storing " + v, chip.control(ALL[k]), v & kept[k]);
                for (int n : ALL) {
                    if (n != ALL[k] && n != 3072) {
                        Due.same("control " + n + " untouched by " + ALL[k], chip.control(n), 0);
                    }
                }
                if (ALL[k] != 768 && ALL[k] != 772) {
                    chip.run(1);
                    Due.same("read back " + ALL[k], chip.register(2), v & kept[k]);
                }
                Due.same("no trap for " + ALL[k], chip.traps(), 0);
            }
        }
    }

    private static void waysOfStoring() {
        int old = 0b10111;
        int y = 0b01101;
        int[] want = {0, y, old | y, old & ~y, 0, y, old | y, old & ~y};
        for (int f : new int[] {1, 2, 3, 5, 6, 7}) {
            int a = f < 4 ? 2 : y;
            CycleChip chip = Asm.chip(Asm.csrrw(0, Asm.MSCRATCH, 1), Asm.i(115, f, 3, a, Asm.MSCRATCH));
            chip.give(1, old);
            chip.give(2, y);
            Due.same("both act with " + f, chip.run(7), 2);
            Due.same("stored with " + f, chip.control(Asm.MSCRATCH), want[f]);
            Due.same("value before with " + f, chip.register(3), old);
        }
        CycleChip chip = Asm.chip(Asm.csrrw(1, Asm.MSCRATCH, 1), Asm.csrrw(1, Asm.MSCRATCH, 1));
        chip.give(1, 44);
        chip.run(6);
        Due.same("register and control register change places", chip.register(1), 0);
        Due.same("both worked out before", chip.control(Asm.MSCRATCH), 44);
        chip.run(1);
        Due.same("and back", chip.register(1), 44);
        Due.same("and back there", chip.control(Asm.MSCRATCH), 0);
    }

    /** "with f = 2, 3, 6, 7 and a = 0 nothing is stored": CYCLE can be read so, and MIP and all others too. */
    private static void readsThatStoreNothing() {
        for (int f : new int[] {2, 3, 6, 7}) {
            CycleChip chip = Asm.chip(Asm.i(115, f, 3, 0, Asm.CYCLE), Asm.i(115, f, 4, 0, Asm.MIP),
                Asm.csrrw(0, Asm.MSCRATCH, 1), Asm.i(115, f, 5, 0, Asm.MSCRATCH));
            chip.give(1, -1);
            chip.give(4, 9);
            Due.same("all act with " + f, chip.run(9), 4);
            Due.same("CYCLE read with " + f, chip.register(3), 5);
            Due.same("MIP read with " + f, chip.register(4), 0);
            Due.same("MSCRATCH read with " + f, chip.register(5), -1);
            Due.same("MSCRATCH kept with " + f, chip.control(Asm.MSCRATCH), -1);
        }
    }

    /** "TRAP 2 with w when ... CYCLE would be stored": by f = 1 and 5 always, by the others unless a = 0. */
    private static void cycleIsNotStored() {
        refused(Asm.csrrw(3, Asm.CYCLE, 0));
        refused(Asm.csrrw(3, Asm.CYCLE, 1));
        refused(Asm.csrrw(0, Asm.CYCLE, 1));
        refused(Asm.csrrwi(3, Asm.CYCLE, 0));
        refused(Asm.csrrwi(3, Asm.CYCLE, 31));
        for (int f : new int[] {2, 3, 6, 7}) {
            refused(Asm.i(115, f, 3, 1, Asm.CYCLE));
            refused(Asm.i(115, f, 0, 31, Asm.CYCLE));
        }
    }

    /** "836 MIP: storing changes nothing", with bit 7 set (COMPARE 0) and not set, and is no trap. */
    private static void interruptBitsAreNotStored() {
        for (int f : new int[] {1, 2, 3, 5, 6, 7}) {
            for (int compare : new int[] {0, 5000}) {
                CycleChip chip = Asm.chip(Asm.deviceBase(), Asm.storeDevice(2, 2), Asm.storeDevice(0, 3),
                    Asm.i(115, f, 3, 1, Asm.MIP), Asm.STAY);
                chip.give(1, -1);
                chip.give(2, compare);
                chip.run(20);
                Due.same("MIP stored with " + f, chip.control(Asm.MIP), compare == 0 ? 128 : 0);
                Due.same("its value before with " + f, chip.register(3), compare == 0 ? 128 : 0);
                Due.same("no trap with " + f, chip.traps(), 0);
            }
        }
    }

    /** control: "0 when there is none". */
    private static void controlOfNoRegister() {
        CycleChip chip = null;
        for (int n = -10; n < 8192; n++) {
            if ((n + 10) % 400 == 0) {
                chip = new CycleChip(1, 1);
                chip.run(9);
            }
            if (indexOf(n) < 0) {
                Due.same("control " + n, chip.control(n), 0);
            }
        }
        for (int n : new int[] {Integer.MIN_VALUE, Integer.MIN_VALUE + Asm.CYCLE, Asm.CYCLE - 4096, Integer.MAX_VALUE}) {
            Due.same("control " + n, chip.control(n), 0);
        }
    }

    private static int indexOf(int n) {
        for (int k = 0; k < ALL.length; k++) {
            if (ALL[k] == n) {
                return k;
            }
        }
        return -1;
    }

    /** "TRAP 2 with w when there is no such register", even when nothing would be stored. */
    private static void instructionsOfNoRegister() {
        for (int n : new int[] {0, 767, 769, 770, 771, 774, 831, 837, 2047, 2048, 3071, 3073, 3074, 3200, 4095}) {
            refused(Asm.csrrs(3, n, 0));
            refused(Asm.csrrw(3, n, 1));
            refused(Asm.csrrci(3, n, 1));
        }
    }

    private static void refused(int w) {
        CycleChip chip = Asm.chip(w);
        chip.give(3, 9);
        Due.same("acts " + w, chip.run(6), 0);
        Due.same("trap of " + w, chip.traps(), 1);
        Due.same("cause of " + w, chip.control(Asm.MCAUSE), 2);
        Due.same("value of " + w, chip.control(Asm.MTVAL), w);
        Due.same("register of " + w, chip.register(3), 9);
    }

    /** "CYCLE: how many cycles are over": none at first, and in cycle c there are c. */
    private static void cycleCount() {
        CycleChip chip = Asm.chip(Asm.NOP, Asm.csrrs(1, Asm.CYCLE, 0), Asm.STAY);
        for (int k = 0; k < 10; k++) {
            Due.same("CYCLE between", chip.control(Asm.CYCLE), k);
            chip.run(1);
        }
        Due.same("CYCLE within cycle 6", chip.register(1), 6);
    }

    /** "its bit 7 is set while TIME >= COMPARE": COMPARE becomes 30; TIME is 30 when 30 cycles are over. */
    private static void timerBit() {
        CycleChip chip = Asm.chip(Asm.deviceBase(), Asm.storeDevice(0, 3), Asm.storeDevice(1, 2), Asm.STAY);
        chip.give(1, 30);
        chip.run(29);
        Due.same("TIME 29", chip.control(Asm.MIP), 0);
        chip.run(1);
        Due.same("TIME 30", chip.control(Asm.MIP), 128);
        chip.run(100);
        Due.same("TIME 130", chip.control(Asm.MIP), 128);
        Due.same("no interrupt is taken", chip.traps(), 0);
    }

    /** "bit 11 while a source is RAISED". */
    private static void outsideBit() {
        CycleChip chip = Asm.chip(Asm.deviceBase(), Asm.storeDevice(1, 4), Asm.storeDevice(2, 8), Asm.STAY);
        chip.give(1, 1 << 5);
        chip.give(2, 1 << 20);
        chip.plan(40, 5, 1);
        chip.plan(40, 4, 1);
        chip.run(40);
        Due.same("line low", chip.control(Asm.MIP), 0);
        chip.run(1);
        Due.same("line high", chip.control(Asm.MIP), 2048);
        Due.same("sources", chip.sources(), 1 << 5 | 1 << 4);
    }
}
