/** Traps, interrupts and sleep, as promises 8, 11 and 13 show them. */
public final class TrapTest {
    private static final int ON = 8;
    private static final int WAS_ON = 128;

    public static void main(String[] args) {
        trapsOfCalls();
        statusOfATrap();
        pcOutside();
        pcRunsOutOfTheMemory();
        pcBelowTheMemory();
        lastWordIsDone();
        trapsRest();
        returning();
        timerInterrupt();
        interruptRests();
        interruptNeedsAllThree();
        vectorWraps();
        outsideBeforeTimer();
        interruptBeforePcTrap();
        interruptOfAHoldingStore();
        interruptOfAWaitingLoad();
        sleepAndWake();
        awakeAtOnce();
        Due.end();
    }

    private static void trapsOfCalls() {
        int[][] cases = {{Asm.ECALL, 11}, {Asm.EBREAK, 3}};
        for (int[] c : cases) {
            CycleChip chip = Asm.chip(Asm.csrrw(0, Asm.MTVAL, 1), Asm.csrrw(0, Asm.MTVEC, 2), c[0]);
            chip.give(1, 99);
            chip.give(2, 65);
            Due.same("two act", chip.run(8), 2);
            Due.same("cause of " + c[0], chip.control(Asm.MCAUSE), c[1]);
            Due.same("value of " + c[0], chip.control(Asm.MTVAL), 0);
            Due.same("address of " + c[0], chip.control(Asm.MEPC), 8);
            Due.same("a trap goes to the base", chip.pc(), 64);
        }
    }

    private static void statusOfATrap() {
        int[][] cases = {{0, 0}, {ON, WAS_ON}, {WAS_ON, 0}, {ON | WAS_ON, WAS_ON}};
        for (int[] c : cases) {
            CycleChip chip = Asm.chip(Asm.csrrw(0, Asm.MSTATUS, 1), Asm.ECALL);
            chip.give(1, c[0]);
            chip.run(7);
            Due.same("status after a trap with " + c[0], chip.control(Asm.MSTATUS), c[1]);
        }
    }

    /** "TRAP 1 with PC": one every second cycle while MTVEC leads to no word. */
    private static void pcOutside() {
        CycleChip chip = Asm.chip(Asm.csrrw(0, Asm.MTVEC, 1), Asm.jal(0, 508));
        chip.give(1, 2048);
        chip.run(7);
        Due.same("the jump acts", chip.traps(), 0);
        Due.same("and leads outside", chip.pc(), 512);
        chip.run(1);
        Due.same("rest", chip.traps(), 0);
        chip.run(1);
        Due.same("trap", chip.traps(), 1);
        Due.same("cause", chip.control(Asm.MCAUSE), 1);
        Due.same("value", chip.control(Asm.MTVAL), 512);
        Due.same("address", chip.control(Asm.MEPC), 512);
        Due.same("pc", chip.pc(), 2048);
        Due.same("nothing acts", chip.run(20), 0);
        Due.same("ten more", chip.traps(), 11);
        Due.same("value of the latest", chip.control(Asm.MTVAL), 2048);
        Due.same("the bus is idle", chip.bus(), 0);
    }

    /** "PC is not one of 0, 4, .. 508: TRAP 1 with PC": behind the last word comes 512. */
    private static void pcRunsOutOfTheMemory() {
        CycleChip chip = Asm.chip(Asm.jal(0, 508));
        chip.poke(127, Asm.li(1, 1));
        chip.run(13);
        Due.same("the last word acts", chip.register(1), 1);
        Due.same("at its address", chip.actAddress(0), 508);
        Due.same("pc behind it", chip.pc(), 512);
        Due.same("no trap yet", chip.traps(), 0);
        Due.same("nothing acts there", chip.run(1), 0);
        Due.same("cause", chip.control(Asm.MCAUSE), 1);
        Due.same("value", chip.control(Asm.MTVAL), 512);
        Due.same("address", chip.control(Asm.MEPC), 512);
        Due.same("nothing was wanted", chip.bus(), 0);
    }

    /** "PC is not one of 0, 4, .. 508: TRAP 1 with PC": below 0, and far above, by a jump or by a return. */
    private static void pcBelowTheMemory() {
        for (int address : new int[] {-4, -512, Integer.MIN_VALUE, 512, 4096, Integer.MAX_VALUE - 3}) {
            for (int way = 0; way < 2; way++) {
                CycleChip chip = Asm.chip(Asm.csrrw(0, Asm.MEPC, 1), way == 0 ? Asm.MRET : Asm.jalr(0, 1, 0));
                chip.give(1, address);
                Due.same("both act", chip.run(7), 2);
                Due.same("pc", chip.pc(), address);
                Due.same("rest", chip.run(1), 0);
                Due.same("no trap while it rests", chip.traps(), 0);
                Due.same("no act", chip.run(1), 0);
                Due.same("trap with pc " + address, chip.traps(), 1);
                Due.same("cause with pc " + address, chip.control(Asm.MCAUSE), 1);
                Due.same("value with pc " + address, chip.control(Asm.MTVAL), address);
                Due.same("address with pc " + address, chip.control(Asm.MEPC), address);
            }
        }
    }

    /** "0, 4, .. 508": the last of them is no trap. */
    private static void lastWordIsDone() {
        CycleChip chip = Asm.chip(Asm.csrrw(0, Asm.MEPC, 1), Asm.MRET);
        chip.give(1, 511);
        chip.poke(127, Asm.STAY);
        chip.run(100);
        Due.same("no trap", chip.traps(), 0);
        Due.same("pc", chip.pc(), 508);
        Due.same("acts there", chip.actAddress(0), 508);
    }

    /** TRAP: "the core rests for 1 cycle", then goes on at MTVEC. */
    private static void trapsRest() {
        for (int w : new int[] {Asm.ECALL, Asm.EBREAK, 0, Asm.jal(0, 2), Asm.lw(1, 1, 0), Asm.sw(1, 512, 0)}) {
            CycleChip chip = Asm.chip(Asm.li(1, 12), Asm.csrrw(0, Asm.MTVEC, 1), w, Asm.STAY);
            Due.same("two act before " + w, chip.run(8), 2);
            Due.same("trap of " + w, chip.traps(), 1);
            Due.same("rest after " + w, chip.run(1), 0);
            Due.same("then after " + w, chip.run(1), 1);
            Due.same("there after " + w, chip.actAddress(0), 12);
        }
    }

    private static void returning() {
        int[][] cases = {{0, WAS_ON}, {ON, WAS_ON}, {WAS_ON, ON | WAS_ON}, {ON | WAS_ON, ON | WAS_ON}};
        for (int[] c : cases) {
            CycleChip chip = Asm.chip(Asm.csrrw(0, Asm.MSTATUS, 1), Asm.csrrw(0, Asm.MEPC, 2), Asm.MRET, Asm.li(3, 1));
            chip.give(1, c[0]);
            chip.give(2, 15);
            Due.same("three act", chip.run(8), 3);
            Due.same("status after a return with " + c[0], chip.control(Asm.MSTATUS), c[1]);
            Due.same("pc after a return", chip.pc(), 12);
            Due.same("rest", chip.run(1), 0);
            Due.same("then", chip.run(1), 1);
        }
    }

    /** COMPARE 40: the interrupt is taken in CORE of cycle 40, when TIME is 40. */
    private static CycleChip timer(int vector) {
        CycleChip chip = Asm.chip(Asm.deviceBase(), Asm.storeDevice(1, 2), Asm.storeDevice(0, 3), Asm.csrrw(0, Asm.MTVEC, 2),
            Asm.csrrw(0, Asm.MIE, 3), Asm.csrrsi(0, Asm.MSTATUS, 8), Asm.STAY);
        chip.give(1, 40);
        chip.give(2, vector);
        chip.give(3, -1);
        return chip;
    }

    /** "PC becomes (MTVEC & -4) + 4 * n if bit 0 of MTVEC is set"; bit 1 is not kept. */
    private static void timerInterrupt() {
        for (int vector : new int[] {128, 129, 130, 131}) {
            CycleChip chip = timer(vector);
            chip.run(40);
            Due.same("none before", chip.traps(), 0);
            chip.run(2);
            Due.same("taken", chip.traps(), 1);
            Due.same("cause", chip.control(Asm.MCAUSE), 7 + Integer.MIN_VALUE);
            Due.same("value", chip.control(Asm.MTVAL), 0);
            Due.same("address", chip.control(Asm.MEPC), 24);
            Due.same("status", chip.control(Asm.MSTATUS), WAS_ON);
            Due.same("pc for " + vector, chip.pc(), vector % 2 == 0 ? 128 : 156);
            chip.run(50);
            Due.same("off until the return, then the zeroes trap", chip.control(Asm.MCAUSE), 2);
        }
    }

    /** INTERRUPT: "MCAUSE becomes n - 2^31", and "the core rests for 1 cycle": CODE is wanted only in the next. */
    private static void interruptRests() {
        CycleChip chip = timer(32);
        chip.poke(8, Asm.STAY);
        for (int k = 0; k < 100 && chip.traps() == 0; k++) {
            chip.run(1);
        }
        Due.same("cause", chip.control(Asm.MCAUSE), -2147483641);
        int taken = chip.cycles() - 1;
        chip.run(2);
        Due.same("wanted, not begun", chip.bus(), 0);
        chip.run(1);
        Due.same("begun", chip.bus(), 1);
        chip.run(4);
        Due.same("the first act there", chip.actCycle(0), taken + 2 + 5);
    }

    /** "(a) bit 3 of MSTATUS is set and MIP & MIE is not 0": each of the three may be missing. */
    private static void interruptNeedsAllThree() {
        for (int missing = 0; missing < 4; missing++) {
            CycleChip chip = timer(128);
            chip.give(1, missing == 1 ? 900 : 40);
            chip.give(3, missing == 2 ? 2048 : -1);
            chip.poke(5, Asm.csrrwi(0, Asm.MSTATUS, missing == 3 ? 0 : 8));
            chip.run(60);
            Due.same("taken, missing " + missing, chip.traps() > 0, missing == 0);
        }
    }

    /** "Ints wrap.": so does (MTVEC & -4) + 4 * n, here from -4 to 24, and from -28 to 0. */
    private static void vectorWraps() {
        int[][] cases = {{-3, 24}, {-27, 0}, {-31, -4}, {-4, -4}, {Integer.MAX_VALUE - 2, Integer.MIN_VALUE + 24}};
        for (int[] c : cases) {
            CycleChip chip = timer(c[0]);
            for (int k = 0; k < 100 && chip.traps() == 0; k++) {
                chip.run(1);
            }
            Due.same("vector " + c[0], chip.pc(), c[1]);
            Due.same("MTVEC " + c[0], chip.control(Asm.MTVEC), c[0]);
        }
    }

    /** "the INTERRUPT 11 is taken when bit 11 of MIP & MIE is set, else the INTERRUPT 7": both are set. */
    private static void outsideBeforeTimer() {
        CycleChip chip = Asm.chip(Asm.deviceBase(), Asm.storeDevice(1, 4), Asm.storeDevice(2, 8), Asm.storeDevice(0, 3),
            Asm.storeDevice(0, 2), Asm.csrrw(0, Asm.MTVEC, 3), Asm.csrrw(0, Asm.MIE, 4), Asm.csrrsi(0, Asm.MSTATUS, 8));
        chip.give(1, 254);
        chip.give(2, -1);
        chip.give(3, 129);
        chip.give(4, -1);
        chip.plan(0, 2, 1);
        for (int k = 0; k < 100 && chip.traps() == 0; k++) {
            chip.run(1);
        }
        Due.same("both", chip.control(Asm.MIP), 2176);
        Due.same("11 first", chip.control(Asm.MCAUSE), 11 + Integer.MIN_VALUE);
        Due.same("its place", chip.pc(), 128 + 44);
        Due.same("before the next instruction", chip.control(Asm.MEPC), 32);
    }

    /** PC leads outside the memory in the cycle in which the interrupt is due. */
    private static void interruptBeforePcTrap() {
        CycleChip chip = timer(128);
        chip.give(1, 0);
        chip.poke(5, Asm.csrrw(0, Asm.MEPC, 4));
        chip.poke(6, Asm.csrrw(0, Asm.MSTATUS, 5));
        chip.poke(7, Asm.MRET);
        chip.give(4, 3000);
        chip.give(5, 128);
        for (int k = 0; k < 100 && chip.traps() == 0; k++) {
            chip.run(1);
        }
        Due.same("the interrupt is first", chip.control(Asm.MCAUSE), 7 + Integer.MIN_VALUE);
        Due.same("with that PC", chip.control(Asm.MEPC), 3000);
        Due.same("value", chip.control(Asm.MTVAL), 0);
    }

    /**
     * "in the next cycle CORE begins anew with (a)": the first run tells when the third store holds; in the second the
     * interrupt is due then.
     */
    private static void interruptOfAHoldingStore() {
        CycleChip chip = new CycleChip(8, 8);
        Asm.put(chip, 0, Asm.jal(0, 64));
        Asm.put(chip, 16, Asm.csrrw(0, Asm.MTVEC, 2), Asm.csrrw(0, Asm.MIE, 3), Asm.deviceBase(), Asm.jal(0, 4),
            Asm.storeDevice(1, 2), Asm.storeDevice(0, 3), Asm.csrrsi(0, Asm.MSTATUS, 8), Asm.jal(0, 4),
            Asm.sw(1, 256, 0), Asm.sw(1, 260, 0), Asm.sw(1, 264, 0), Asm.STAY);
        chip.give(1, 150);
        chip.give(2, 256);
        chip.give(3, -1);
        for (int k = 0; k < 300 && chip.stores() < 2; k++) {
            chip.run(1);
        }
        Due.same("two stores before the time", chip.cycles() < 150, true);
        Due.same("no trap yet", chip.traps(), 0);
        int cycle = chip.cycles();
        CycleChip same = new CycleChip(8, 8);
        for (int p = 0; p < 28; p++) {
            same.poke(p, chip.peek(p));
        }
        same.give(1, cycle + 2);
        same.give(2, 256);
        same.give(3, -1);
        same.run(cycle + 3);
        Due.same("taken while the store holds", same.traps(), 1);
        Due.same("at the store", same.control(Asm.MEPC), 4 * 26);
        Due.same("cause", same.control(Asm.MCAUSE), 7 + Integer.MIN_VALUE);
        Due.same("two in the buffer", same.stores(), 2);
    }

    /** The time comes while the load waits; when its block is there, the interrupt is first. */
    private static void interruptOfAWaitingLoad() {
        CycleChip chip = new CycleChip(2, 8);
        Asm.put(chip, 0, Asm.deviceBase(), Asm.csrrw(0, Asm.MTVEC, 2), Asm.csrrw(0, Asm.MIE, 3), Asm.storeDevice(0, 3),
            Asm.storeDevice(1, 2), Asm.csrrsi(0, Asm.MSTATUS, 8), Asm.lw(4, 256, 0), Asm.STAY);
        chip.give(1, 32);
        chip.give(2, 128);
        chip.give(3, -1);
        chip.give(4, 5);
        chip.poke(64, 77);
        while (chip.bus() != 2 && chip.cycles() < 200) {
            chip.run(1);
        }
        Due.same("begun before the time", chip.cycles() <= 32, true);
        int begun = chip.cycles() - 1;
        chip.run(7);
        Due.same("it waits", chip.traps(), 0);
        Due.same("the time has come", chip.control(Asm.MIP), 128);
        chip.run(1);
        Due.same("done in", chip.cycles() - 1, begun + 8);
        Due.same("taken", chip.traps(), 1);
        Due.same("before the load acts", chip.register(4), 5);
        Due.same("at the load", chip.control(Asm.MEPC), 24);
        Due.same("the block is there", chip.held(false, 64), 77);
    }

    /** "If it is ASLEEP: nothing when MIP & MIE is 0, else it is awake and goes on." */
    private static void sleepAndWake() {
        for (int on = 0; on < 2; on++) {
            CycleChip chip = timer(128);
            chip.poke(5, Asm.csrrwi(0, Asm.MSTATUS, 8 * on));
            chip.poke(6, Asm.WFI);
            chip.poke(7, Asm.li(5, 1));
            chip.poke(8, Asm.STAY);
            Due.same("until it sleeps", chip.run(40), 7);
            Due.same("asleep behind it", chip.pc(), 28);
            Due.same("awake", chip.run(1), on == 1 ? 0 : 1);
            Due.same("interrupt or not", chip.traps(), on);
            Due.same("goes on", chip.register(5), 1 - on);
            Due.same("address", chip.control(Asm.MEPC), on == 1 ? 28 : 0);
        }
        CycleChip chip = timer(128);
        chip.give(3, 2048);
        chip.poke(6, Asm.WFI);
        Due.same("until it sleeps", chip.run(1000), 7);
        Due.same("MIP without MIE", chip.control(Asm.MIP), 128);
        Due.same("sleeps on", chip.run(1000), 0);
        Due.same("no trap", chip.traps(), 0);
    }

    /** "else it is awake and goes on": MIP & MIE is not 0 from the first, and is 0 again later. */
    private static void awakeAtOnce() {
        CycleChip chip = Asm.chip(Asm.deviceBase(), Asm.storeDevice(0, 3), Asm.storeDevice(0, 2), Asm.csrrw(0, Asm.MIE, 3),
            Asm.WFI, Asm.li(5, 1), Asm.STAY);
        chip.give(3, 128);
        for (int k = 0; k < 100 && chip.actAddress(0) != 16; k++) {
            chip.run(1);
        }
        Due.same("one cycle later", chip.run(1), 1);
        Due.same("the next", chip.actAddress(0), 20);
        chip = Asm.chip(Asm.deviceBase(), Asm.storeDevice(0, 3), Asm.storeDevice(0, 2), Asm.csrrw(0, Asm.MIE, 3),
            Asm.WFI, Asm.storeDevice(3, 3), Asm.li(5, 1), Asm.STAY);
        chip.give(3, 128);
        chip.run(100);
        Due.same("nothing to be awake for any more", chip.control(Asm.MIP), 0);
        Due.same("awake all the same", chip.register(5), 1);
        Due.same("and at work", chip.run(10), 5);
    }
}
