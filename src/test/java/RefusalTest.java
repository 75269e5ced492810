/**
 * "A call that is refused changes nothing.": of two chips with the same past one is asked what is refused, in many
 * moments of a busy program; then both answer alike, and go on alike.
 */
public final class RefusalTest {
    private static final int MIN = Integer.MIN_VALUE;
    private static final int MAX = Integer.MAX_VALUE;
    private static final int LAST_MOMENT = 130;

    /** A kind of call that is refused, asked of a chip. */
    private interface Refused {
        void ask(CycleChip chip);
    }

    public static void main(String[] args) {
        changesNothing("poke", RefusalTest::pokes);
        changesNothing("give", RefusalTest::gives);
        changesNothing("plan", RefusalTest::plans);
        changesNothing("run", RefusalTest::runs);
        changesNothing("looks", RefusalTest::looks);
        planWhenFull();
        busyIndeed();
        Due.end();
    }

    private static void pokes(CycleChip chip) {
        for (int p : new int[] {-1, 128, MIN, MAX}) {
            Due.same("poke " + p, chip.poke(p, -1), 0);
        }
    }

    private static void gives(CycleChip chip) {
        for (int k : new int[] {-1, 32, MIN, MAX}) {
            Due.same("give " + k, chip.give(k, 77), false);
        }
    }

    private static void plans(CycleChip chip) {
        for (int delay : new int[] {-1, 2001, MIN, MAX}) {
            Due.same("plan in " + delay, chip.plan(delay, 0, 1), false);
        }
        for (int what : new int[] {-1, 1, 8, MIN, MAX}) {
            Due.same("plan of " + what, chip.plan(0, what, 1), false);
        }
    }

    private static void runs(CycleChip chip) {
        for (int n : new int[] {-1, 1001, MIN, MAX}) {
            Due.same("run " + n, chip.run(n), -1);
        }
    }

    private static void looks(CycleChip chip) {
        for (int k : new int[] {-2, 128, MIN, MAX}) {
            Due.same("peek " + k, chip.peek(k), 0);
            Due.same("held code " + k, chip.held(true, k), -1);
            Due.same("held data " + k, chip.held(false, k), -1);
            Due.same("register " + k, chip.register(k), 0);
            Due.same("control " + k, chip.control(k), 0);
            Due.same("actCycle " + k, chip.actCycle(k), -1);
            Due.same("actAddress " + k, chip.actAddress(k), -1);
            Due.same("sent " + k, chip.sent(k), -1);
        }
    }

    /** Stores, loads, devices, interrupts and a source in service, again and again, with events still to come. */
    private static CycleChip busy(int cycles) {
        CycleChip chip = new CycleChip(2, 2);
        Asm.put(chip, 0, Asm.deviceBase(), Asm.storeDevice(1, 4), Asm.storeDevice(1, 8), Asm.storeDevice(2, 12),
            Asm.storeDevice(2, 12), Asm.loadDevice(3, 6), Asm.sw(2, 256, 0), Asm.sw(2, 260, 0), Asm.sw(2, 264, 0),
            Asm.lw(4, 272, 0), Asm.loadDevice(5, 12), Asm.div(6, 2, 3), Asm.ECALL);
        chip.give(1, -1);
        chip.give(2, 65);
        for (int k = 0; k < 5; k++) {
            chip.plan(25 * k, 0, k);
            chip.plan(25 * k + 7, 2 + k, 1);
        }
        chip.run(cycles);
        return chip;
    }

    private static void changesNothing(String name, Refused refused) {
        for (int moment = 0; moment <= LAST_MOMENT; moment++) {
            for (int later : new int[] {0, 1, 60}) {
                CycleChip asked = busy(moment);
                CycleChip other = busy(moment);
                refused.ask(asked);
                Due.same(name + " at " + moment + ", run " + later, asked.run(later), other.run(later));
                sameState(name + " at " + moment + ", then " + later, asked, other);
            }
            CycleChip asked = busy(moment);
            CycleChip other = busy(moment);
            refused.ask(asked);
            sameMemory(name + " at " + moment, asked, other);
        }
    }

    private static void sameState(String at, CycleChip asked, CycleChip other) {
        Due.same(at + ": pc", asked.pc(), other.pc());
        Due.same(at + ": planned", asked.planned(), other.planned());
        Due.same(at + ": cycles", asked.cycles(), other.cycles());
        Due.same(at + ": traps", asked.traps(), other.traps());
        Due.same(at + ": sending", asked.queued(true), other.queued(true));
        Due.same(at + ": received", asked.queued(false), other.queued(false));
        Due.same(at + ": stores", asked.stores(), other.stores());
        Due.same(at + ": bus", asked.bus(), other.bus());
        Due.same(at + ": sources", asked.sources(), other.sources());
        for (int k = 0; k < 32; k++) {
            Due.same(at + ": register " + k, asked.register(k), other.register(k));
        }
        for (int n : new int[] {768, 772, 773, 832, 833, 834, 835, 836, 3072}) {
            Due.same(at + ": control " + n, asked.control(n), other.control(n));
        }
        for (int k = -1; k < 16; k++) {
            Due.same(at + ": actCycle " + k, asked.actCycle(k), other.actCycle(k));
            Due.same(at + ": actAddress " + k, asked.actAddress(k), other.actAddress(k));
            Due.same(at + ": sent " + k, asked.sent(k), other.sent(k));
        }
    }

    private static void sameMemory(String at, CycleChip asked, CycleChip other) {
        for (int p = 0; p < 128; p++) {
            Due.same(at + ": peek " + p, asked.peek(p), other.peek(p));
            Due.same(at + ": held code " + p, asked.held(true, p), other.held(true, p));
            Due.same(at + ": held data " + p, asked.held(false, p), other.held(false, p));
        }
    }

    /** A plan that is refused because sixteen wait changes none of them. */
    private static void planWhenFull() {
        for (int cycles = 0; cycles < 20; cycles++) {
            CycleChip asked = sixteenPlanned();
            for (int what : new int[] {0, 2, 7}) {
                Due.same("plan of " + what, asked.plan(0, what, 1), false);
                Due.same("plan of " + what + ", far", asked.plan(2000, what, 0), false);
            }
            CycleChip other = sixteenPlanned();
            asked.run(cycles);
            other.run(cycles);
            sameState("sixteen planned, after " + cycles, asked, other);
        }
    }

    private static CycleChip sixteenPlanned() {
        CycleChip chip = new CycleChip(1, 1);
        for (int k = 0; k < 16; k++) {
            chip.plan(k, k % 8 < 2 ? 0 : k % 8, 1);
        }
        return chip;
    }

    /** The moments are worth looking at: every kind of request, a full buffer, bytes both ways, a service, a trap. */
    private static void busyIndeed() {
        int requests = 0;
        int stores = 0;
        int services = 0;
        int received = 0;
        for (int moment = 0; moment <= LAST_MOMENT; moment++) {
            CycleChip chip = busy(moment);
            requests |= 1 << chip.bus();
            stores = Math.max(stores, chip.stores());
            services |= chip.sources() >> 8;
            received |= chip.queued(false);
        }
        Due.same("all requests", requests, 31);
        Due.same("a full buffer", stores, 2);
        Due.same("a source in service", services != 0, true);
        Due.same("bytes received", received != 0, true);
        Due.same("bytes out", busy(LAST_MOMENT).sent(-1) > 0, true);
        Due.same("traps", busy(LAST_MOMENT).traps() > 0, true);
    }
}
