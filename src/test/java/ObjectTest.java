/** Promise 1: what a new object holds, and how latency and lines are kept within 1 .. 8; and the 512 calls. */
public final class ObjectTest {
    private static final int[][] ONE_TO_EIGHT = {{Integer.MIN_VALUE, 1}, {-1, 1}, {0, 1}, {1, 1}, {2, 2}, {5, 5},
        {7, 7}, {8, 8}, {9, 8}, {Integer.MAX_VALUE, 8}};

    public static void main(String[] args) {
        allIsZero();
        latencyOfBlocks();
        latencyOfStores();
        latencyIsNotThatOfDevices();
        linesOfCode();
        linesOfData();
        devicesAtFirst();
        objectsAreApart();
        lastOfAllCalls();
        Due.end();
    }

    /** "All words, registers, PC and control registers 0, ... nothing in a queue, in the buffer or planned." */
    private static void allIsZero() {
        CycleChip chip = new CycleChip(3, 4);
        for (int p = 0; p < 128; p++) {
            Due.same("new peek " + p, chip.peek(p), 0);
            Due.same("new held code " + p, chip.held(true, p), -1);
            Due.same("new held data " + p, chip.held(false, p), -1);
        }
        for (int k = 0; k < 32; k++) {
            Due.same("new register " + k, chip.register(k), 0);
        }
        for (int n : new int[] {768, 772, 773, 832, 833, 834, 835, 836, 3072}) {
            Due.same("new control " + n, chip.control(n), 0);
        }
        Due.same("new pc", chip.pc(), 0);
        Due.same("new cycles", chip.cycles(), 0);
        Due.same("new traps", chip.traps(), 0);
        Due.same("new planned", chip.planned(), 0);
        Due.same("new sending", chip.queued(true), 0);
        Due.same("new received", chip.queued(false), 0);
        Due.same("new stores", chip.stores(), 0);
        Due.same("new bus", chip.bus(), 0);
        Due.same("new sources", chip.sources(), 0);
        Due.same("new sent count", chip.sent(-1), 0);
        Due.same("new sent", chip.sent(0), -1);
        Due.same("new actCycle", chip.actCycle(0), -1);
        Due.same("new actAddress", chip.actAddress(0), -1);
    }

    /**
     * "L is latency, but at least 1 and at most 8": CODE is wanted in cycle 0, begun in 1, and takes 4 * L; then the
     * same for DATA.
     */
    private static void latencyOfBlocks() {
        for (int[] c : ONE_TO_EIGHT) {
            CycleChip chip = new CycleChip(c[0], 8);
            Asm.put(chip, 0, Asm.NOP, Asm.lw(1, 256, 0));
            Due.same("latency " + c[0] + " early", chip.run(1 + 4 * c[1]), 0);
            Due.same("latency " + c[0] + " in time", chip.run(1), 1);
            Due.same("latency " + c[0] + " cycle", chip.actCycle(0), 1 + 4 * c[1]);
            Due.same("latency " + c[0] + " data early", chip.run(1 + 4 * c[1]), 0);
            Due.same("latency " + c[0] + " data in time", chip.run(1), 1);
            Due.same("latency " + c[0] + " data cycle", chip.actCycle(0), 3 + 8 * c[1]);
        }
    }

    /** "L is latency, but at least 1 and at most 8": a STORE takes L. */
    private static void latencyOfStores() {
        for (int[] c : ONE_TO_EIGHT) {
            CycleChip chip = new CycleChip(c[0], 8);
            Asm.put(chip, 0, Asm.sw(1, 256, 0), Asm.STAY);
            chip.give(1, 5);
            Due.same("latency " + c[0] + " store acts", chip.run(2 + 4 * c[1]), 1);
            chip.run(c[1]);
            Due.same("latency " + c[0] + " store early", chip.peek(64), 0);
            chip.run(1);
            Due.same("latency " + c[0] + " store in time", chip.peek(64), 5);
        }
    }

    /** "DEVICE (1 cycle)", whatever the latency is. */
    private static void latencyIsNotThatOfDevices() {
        for (int[] c : ONE_TO_EIGHT) {
            CycleChip chip = new CycleChip(c[0], 8);
            Asm.put(chip, 0, Asm.deviceBase(), Asm.loadDevice(1, 14), Asm.STAY);
            chip.run(4 + 4 * c[1]);
            Due.same("latency " + c[0] + " device early", chip.register(1), 0);
            chip.run(1);
            Due.same("latency " + c[0] + " device in time", chip.register(1), 1);
        }
    }

    /** "N is lines, but at least 1 and at most 8": block 0 leaves the cache when block N is fetched, and not before. */
    private static void linesOfCode() {
        for (int[] c : ONE_TO_EIGHT) {
            for (int block = 1; block < 32; block++) {
                CycleChip chip = new CycleChip(1, c[0]);
                Asm.put(chip, 0, Asm.jal(0, 16 * block));
                Asm.put(chip, 4 * block, Asm.STAY);
                chip.run(20);
                boolean gone = block % c[1] == 0;
                Due.same("lines " + c[0] + " block 0 after " + block, chip.held(true, 0), gone ? -1 : Asm.jal(0, 16 * block));
                Due.same("lines " + c[0] + " block " + block, chip.held(true, 4 * block), Asm.STAY);
            }
        }
    }

    /** "N is lines, but at least 1 and at most 8": the data cache has as many lines as the other. */
    private static void linesOfData() {
        for (int[] c : ONE_TO_EIGHT) {
            for (int block = 0; block < 32; block++) {
                CycleChip chip = new CycleChip(1, c[0]);
                Asm.put(chip, 0, Asm.lw(1, 16 * 10, 0), Asm.lw(1, 16 * block, 0), Asm.STAY);
                chip.poke(41, 41);
                chip.run(20);
                boolean gone = block != 10 && block % c[1] == 10 % c[1];
                Due.same("lines " + c[0] + " block 10 after " + block, chip.held(false, 41), gone ? -1 : 41);
                Due.same("lines " + c[0] + " data block " + block, chip.held(false, 4 * block), chip.peek(4 * block));
            }
        }
    }

    /** "At first DIVISOR is 1, COMPARE all ones, the others are 0", and DATA is -1, for nothing has been received. */
    private static void devicesAtFirst() {
        int[] want = {0, 0, -1, -1, 0, 0, 0, 0, 0, 0, 0, 0, -1, 0, 1, 0};
        for (int r = 1; r < 16; r++) {
            CycleChip chip = Asm.chip(Asm.deviceBase(), Asm.loadDevice(1, r), Asm.STAY);
            chip.give(1, 99);
            chip.run(20);
            Due.same("device register " + r + " at first", chip.register(1), want[r]);
        }
    }

    private static void objectsAreApart() {
        CycleChip one = Asm.chip(Asm.li(1, 5), Asm.sw(1, 256, 0), Asm.STAY);
        CycleChip other = Asm.chip(Asm.STAY);
        one.run(50);
        Due.same("one object's word", one.peek(64), 5);
        Due.same("the other object's word", other.peek(64), 0);
        Due.same("the other object's cycles", other.cycles(), 0);
    }

    /** A chip after 511 calls; its loop of two instructions takes four cycles and keeps the sending queue full. */
    private static CycleChip afterAllCallsButOne() {
        CycleChip chip = Asm.chip(Asm.deviceBase(), Asm.storeDevice(1, 12), Asm.jal(0, -4));
        for (int k = 0; k < 508; k++) {
            chip.run(1000);
        }
        return chip;
    }

    /** "An object is used for at most 512 calls": the last of them is answered like the first. */
    private static void lastOfAllCalls() {
        Due.same("call 512: cycles", afterAllCallsButOne().cycles(), 508000);
        Due.same("call 512: CYCLE", afterAllCallsButOne().control(Asm.CYCLE), 508000);
        Due.same("call 512: peek", afterAllCallsButOne().peek(2), Asm.jal(0, -4));
        Due.same("call 512: plan", afterAllCallsButOne().plan(2000, 0, 1), true);
        Due.same("call 512: actCycle", afterAllCallsButOne().actCycle(0), 507996);
        Due.same("call 512: sent", afterAllCallsButOne().sent(0), 507999 * 256L);
        Due.same("call 512: sent count", afterAllCallsButOne().sent(-1), 50799);
        Due.same("call 512: run", afterAllCallsButOne().run(1000), 500);
    }
}
