/** Promise 20: sources, with the registers of the interrupt controller. */
public final class SourcesTest {
    private static final int IN_SERVICE = 256;

    public static void main(String[] args) {
        pendingStays();
        claimAndEnd();
        everySource();
        endOfOthersDoesNothing();
        otherRegistersEndNothing();
        greatestPriorityFirst();
        leastOfEquals();
        noneIsRaised();
        raisedOrNot();
        registersAreKept();
        inServiceIsNotPending();
        pendingWhateverIsEnabled();
        lineOfSourceOne();
        serialSource();
        serialSourceOfSending();
        pendingRegister();
        Due.end();
    }

    /** "(and stays so, whatever its line does, until it is claimed)". */
    private static void pendingStays() {
        CycleChip chip = new CycleChip(1, 1);
        chip.plan(1, 3, 1);
        chip.plan(2, 3, 0);
        chip.plan(5, 6, 1);
        int[] want = {0, 8, 8, 8, 8, 72, 72};
        for (int c = 0; c < want.length; c++) {
            chip.run(1);
            Due.same("sources after cycle " + c, chip.sources(), want[c]);
        }
    }

    /** A chip whose sources are all enabled with these priorities, and which then does the words. */
    private static CycleChip controller(int enable, int priorities, int threshold, int... words) {
        CycleChip chip = Asm.chip(Asm.deviceBase(), Asm.storeDevice(21, 4), Asm.storeDevice(22, 8), Asm.storeDevice(23, 5));
        chip.give(21, enable);
        chip.give(22, priorities);
        chip.give(23, threshold);
        Asm.put(chip, 4, words);
        return chip;
    }

    /** Until the instruction at this address has acted. */
    private static void runBehind(CycleChip chip, int address) {
        for (int k = 0; k < 300; k++) {
            for (int old = 0; old < 2; old++) {
                if (chip.actAddress(old) == address) {
                    return;
                }
            }
            chip.run(1);
        }
        Due.same("the instruction at " + address + " acts", false, true);
    }

    /** "which is pending no more and in service": and pending again when that has ended, for the line is high. */
    private static void claimAndEnd() {
        CycleChip chip = controller(254, 0x11111111, 0, Asm.loadDevice(1, 6), Asm.loadDevice(2, 6),
            Asm.storeDevice(1, 6), Asm.NOP, Asm.STAY);
        chip.plan(0, 5, 1);
        chip.run(1);
        Due.same("pending", chip.sources(), 32);
        runBehind(chip, 16);
        Due.same("claimed", chip.register(1), 5);
        Due.same("in service", chip.sources(), 32 * IN_SERVICE);
        runBehind(chip, 20);
        Due.same("no second claim, though the line is high", chip.register(2), 0);
        Due.same("in service still", chip.sources(), 32 * IN_SERVICE);
        runBehind(chip, 24);
        Due.same("the service has ended", chip.sources(), 0);
        chip.run(1);
        Due.same("pending again, for the line is high", chip.sources(), 32);
    }

    /** "storing v ends that source v is in service": of each source 2 .. 7. */
    private static void everySource() {
        for (int s = 2; s < 8; s++) {
            CycleChip chip = controller(254, 0x11111111, 0, Asm.loadDevice(1, 6), Asm.storeDevice(1, 6), Asm.STAY);
            chip.plan(0, s, 1);
            chip.plan(1, s, 0);
            runBehind(chip, 16);
            Due.same("claimed " + s, chip.register(1), s);
            Due.same("in service " + s, chip.sources(), (1 << s) * IN_SERVICE);
            runBehind(chip, 20);
            Due.same("ended " + s, chip.sources(), 0);
        }
    }

    /** "storing v ends that source v is in service, if it is": v is not that source, or none at all. */
    private static void endOfOthersDoesNothing() {
        for (int v : new int[] {0, 1, 2, 4, 6, 7, 8, 37, -27, 5 + 256, Integer.MIN_VALUE, -1}) {
            CycleChip chip = controller(254, 0x11111111, 0, Asm.loadDevice(1, 6), Asm.storeDevice(2, 6), Asm.STAY);
            chip.give(2, v);
            chip.plan(0, 5, 1);
            chip.plan(1, 5, 0);
            runBehind(chip, 20);
            Due.same("in service after the end of " + v, chip.sources(), 32 * IN_SERVICE);
        }
    }

    private static void otherRegistersEndNothing() {
        for (int r = 0; r < 16; r++) {
            CycleChip chip = controller(254, 0x11111111, 0, Asm.loadDevice(1, 6), Asm.storeDevice(1, r), Asm.STAY);
            chip.plan(0, 5, 1);
            chip.plan(1, 5, 0);
            runBehind(chip, 20);
            Due.same("in service after a store of 5 in " + r, chip.sources() / IN_SERVICE, r == 6 ? 0 : 32);
        }
    }

    /** "the raised source of greatest priority, of equals the least". */
    private static void greatestPriorityFirst() {
        int[] loads = new int[9];
        for (int k = 0; k < 8; k++) {
            loads[k] = Asm.loadDevice(1 + k, 6);
        }
        loads[8] = Asm.STAY;
        CycleChip chip = controller(254, 0x37253410, 0, loads);
        for (int s = 2; s < 8; s++) {
            chip.plan(0, s, 1);
        }
        chip.run(200);
        int[] want = {6, 4, 2, 3, 7, 5, 0, 0};
        for (int k = 0; k < 8; k++) {
            Due.same("claim " + k, chip.register(1 + k), want[k]);
        }
        Due.same("all in service", chip.sources(), 252 * IN_SERVICE);
    }

    /** CLAIM: "the raised source of greatest priority, of equals the least", source 1 among them. */
    private static void leastOfEquals() {
        int[] words = new int[10];
        words[0] = Asm.storeDevice(24, 15);
        for (int k = 1; k <= 8; k++) {
            words[k] = Asm.loadDevice(k, 6);
        }
        words[9] = Asm.STAY;
        for (int priority : new int[] {1, 7}) {
            CycleChip chip = controller(254, priority * 0x11111111, 0, words);
            chip.give(24, 2);
            chip.give(8, 99);
            for (int s = 7; s >= 2; s--) {
                chip.plan(0, s, 1);
            }
            chip.run(100);
            for (int k = 1; k <= 7; k++) {
                Due.same("claim " + k + " with priority " + priority, chip.register(k), k);
            }
            Due.same("and no eighth", chip.register(8), 0);
            Due.same("all in service", chip.sources(), 254 * IN_SERVICE);
        }
    }

    /** CLAIM: "0 when none is raised", and nothing changes then: none pending, not enabled, of too low a priority. */
    private static void noneIsRaised() {
        int[][] cases = {{254, -1, 0, 0}, {0, -1, 0, 1}, {254 - 8, -1, 0, 1}, {254, 0, 0, 1}, {254, -1, 7, 1}};
        for (int[] c : cases) {
            CycleChip chip = controller(c[0], c[1], c[2], Asm.loadDevice(1, 6), Asm.loadDevice(2, 6), Asm.STAY);
            chip.give(1, 99);
            chip.give(2, 99);
            chip.plan(0, 3, c[3]);
            chip.run(60);
            Due.same("claim", chip.register(1), 0);
            Due.same("claim again", chip.register(2), 0);
            Due.same("sources", chip.sources(), 8 * c[3]);
            Due.same("MIP", chip.control(Asm.MIP), 0);
        }
    }

    /** "which is not IN SERVICE becomes PENDING": one in service does not, though its line is low and high again. */
    private static void inServiceIsNotPending() {
        CycleChip chip = controller(254, 0x11111111, 0, Asm.loadDevice(1, 6), Asm.STAY);
        chip.plan(0, 5, 1);
        chip.plan(60, 5, 0);
        chip.plan(70, 5, 1);
        chip.plan(70, 4, 1);
        chip.run(70);
        Due.same("in service", chip.sources(), 32 * IN_SERVICE);
        chip.run(10);
        Due.same("another becomes pending", chip.sources(), 16 + 32 * IN_SERVICE);
    }

    /** "Every source 1 .. 7 whose line is high": whatever ENABLE, PRIORITIES and THRESHOLD are, and become. */
    private static void pendingWhateverIsEnabled() {
        CycleChip chip = controller(0, 0, 7, Asm.storeDevice(1, 4), Asm.storeDevice(1, 8), Asm.storeDevice(0, 5),
            Asm.storeDevice(0, 4), Asm.STAY);
        chip.give(1, -1);
        for (int s = 2; s < 8; s++) {
            chip.plan(s, s, 1);
            chip.plan(s + 1, s, 0);
        }
        chip.run(10);
        Due.same("pending", chip.sources(), 252);
        runBehind(chip, 24);
        Due.same("raised", chip.control(Asm.MIP), 2048);
        runBehind(chip, 28);
        Due.same("raised no more", chip.control(Asm.MIP), 0);
        Due.same("pending still", chip.sources(), 252);
    }

    /** "RAISED while it is pending, its bit of ENABLE is set and its priority is greater than THRESHOLD". */
    private static void raisedOrNot() {
        int[][] cases = {{16, 0x50000, 4, 1}, {16, 0x50000, 5, 0}, {16, 0x50000, 7, 0}, {16, 0x70000, 6, 1},
            {16, 0, 0, 0}, {16, 0x10000, 0, 1}, {0, 0x70000, 0, 0}, {8, 0x77777, 0, 0}, {239, 0x70000, 0, 0},
            {-1, -1, 0, 1}, {16, 0x80000, 0, 0}, {16, 0x70000, 8, 1}, {16, 0x70000, 15, 0}};
        for (int[] c : cases) {
            CycleChip chip = controller(c[0], c[1], c[2], Asm.loadDevice(1, 6), Asm.STAY);
            chip.plan(0, 4, 1);
            runBehind(chip, 12);
            String what = "enable " + c[0] + " priorities " + c[1] + " threshold " + c[2];
            Due.same(what + " raised", chip.control(Asm.MIP), c[3] * 2048);
            chip.run(30);
            Due.same(what + " claimed", chip.register(1), c[3] * 4);
            Due.same(what + " sources", chip.sources(), c[3] == 1 ? 16 * IN_SERVICE : 16);
            Due.same(what + " after the claim", chip.control(Asm.MIP), 0);
        }
    }

    /** "4 ENABLE (254 of what is stored)", THRESHOLD "(7 of it)", PRIORITIES "(2004318064 of it)", and 7, 9, 10, 11. */
    private static void registersAreKept() {
        int[] registers = {4, 5, 7, 8, 9, 10, 11};
        int[] kept = {254, 7, 0, 2004318064, 0, 0, 0};
        for (int k = 0; k < registers.length; k++) {
            for (int v : new int[] {-1, 0, 1, 7, 8, 15, 254, 255, 256, 0x55555555, 0xAAAAAAAA, 0x88888888, Integer.MIN_VALUE}) {
                CycleChip chip = Asm.chip(Asm.deviceBase(), Asm.storeDevice(1, registers[k]), Asm.loadDevice(2, registers[k]),
                    Asm.STAY);
                chip.give(1, v);
                chip.give(2, 12345);
                chip.run(30);
                Due.same("device register " + registers[k] + " of " + v, chip.register(2), v & kept[k]);
                Due.same("no source", chip.sources(), 0);
            }
        }
    }

    /**
     * "high when the received queue is not empty and bit 0 of ENABLES is set, or the sending queue is empty and bit 1 of
     * ENABLES is set": with a divisor of 255 the second of two bytes waits in the sending queue.
     */
    private static void lineOfSourceOne() {
        for (int k = 0; k < 16; k++) {
            int enables = k & 3;
            boolean received = (k & 4) != 0;
            boolean sending = (k & 8) != 0;
            int word = sending ? Asm.storeDevice(0, 12) : Asm.NOP;
            CycleChip chip = Asm.chip(Asm.deviceBase(), Asm.storeDevice(1, 14), word, word, Asm.storeDevice(2, 15), Asm.STAY);
            chip.give(1, 255);
            chip.give(2, enables);
            if (received) {
                chip.plan(0, 0, 1);
            }
            chip.run(100);
            Due.same("received", chip.queued(false), received ? 1 : 0);
            Due.same("sending", chip.queued(true), sending ? 1 : 0);
            boolean high = received && enables % 2 == 1 || !sending && enables >= 2;
            Due.same("source 1 with " + enables + ", " + received + ", " + sending, chip.sources(), high ? 2 : 0);
        }
    }

    /** "when the received queue is not empty and bit 0 of ENABLES is set", and no more when it is empty. */
    private static void serialSource() {
        CycleChip chip = Asm.chip(Asm.deviceBase(), Asm.storeDevice(1, 15), Asm.STAY);
        chip.give(1, 1);
        chip.plan(20, 0, 1);
        chip.run(20);
        Due.same("nothing received", chip.sources(), 0);
        chip.run(1);
        Due.same("received", chip.sources(), 2);
        chip = Asm.chip(Asm.STAY);
        chip.plan(0, 0, 1);
        chip.run(20);
        Due.same("not enabled", chip.sources(), 0);
        chip = controller(254, 0x11111111, 0, Asm.storeDevice(24, 15), Asm.loadDevice(1, 6), Asm.storeDevice(1, 6),
            Asm.NOP, Asm.loadDevice(2, 12), Asm.loadDevice(3, 6), Asm.storeDevice(3, 6), Asm.STAY);
        chip.give(24, 1);
        chip.plan(0, 0, 88);
        runBehind(chip, 20);
        Due.same("claimed", chip.register(1), 1);
        runBehind(chip, 24);
        Due.same("ended", chip.sources(), 0);
        chip.run(1);
        Due.same("pending again", chip.sources(), 2);
        runBehind(chip, 32);
        Due.same("the byte", chip.register(2), 88);
        Due.same("pending, though the line is low", chip.sources(), 2);
        runBehind(chip, 40);
        Due.same("claimed again", chip.register(3), 1);
        chip.run(5);
        Due.same("no more", chip.sources(), 0);
    }

    /** "the sending queue is empty and bit 1 of ENABLES is set". */
    private static void serialSourceOfSending() {
        CycleChip chip = Asm.chip(Asm.deviceBase(), Asm.storeDevice(1, 15), Asm.STAY);
        chip.give(1, 2);
        chip.run(9);
        Due.same("stored in BUS, after LINES", chip.sources(), 0);
        chip.run(1);
        Due.same("empty", chip.sources(), 2);
        chip = Asm.chip(Asm.deviceBase(), Asm.storeDevice(2, 14), Asm.storeDevice(2, 12), Asm.storeDevice(2, 12),
            Asm.storeDevice(1, 15), Asm.STAY);
        chip.give(1, 2);
        chip.give(2, 4);
        chip.run(51);
        Due.same("not empty", chip.sources(), 0);
        Due.same("one waits", chip.queued(true), 1);
        chip.run(1);
        Due.same("begun", chip.queued(true), 0);
        Due.same("SENDER is before LINES", chip.sources(), 2);
    }

    /** "7 the pending sources, source s as bit s; storing does nothing." */
    private static void pendingRegister() {
        CycleChip chip = controller(254, 0x11111111, 0, Asm.loadDevice(1, 7), Asm.loadDevice(2, 6), Asm.storeDevice(1, 7),
            Asm.loadDevice(3, 7), Asm.STAY);
        chip.plan(0, 7, 1);
        chip.plan(0, 2, 1);
        chip.plan(0, 4, 1);
        chip.run(60);
        Due.same("pending register", chip.register(1), 128 + 16 + 4);
        Due.same("claim", chip.register(2), 2);
        Due.same("pending register after the claim", chip.register(3), 128 + 16);
        Due.same("sources", chip.sources(), 128 + 16 + 4 * IN_SERVICE);
    }
}
