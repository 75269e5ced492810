/** Promise 1: what a new object holds, and how latency and lines are kept within 1 .. 8. */
public final class ObjectTest {
    public static void main(String[] args) {
        allIsZero();
        latencyIsClamped();
        linesAreClamped();
        devicesAtFirst();
        objectsAreApart();
        Due.end();
    }

    private static void allIsZero() {
        CycleChip chip = new CycleChip(3, 4);
        for (int p = 0; p < 128; p++) {
            Due.same("new peek " + p, chip.peek(p), 0);
            Due.same("new held code " + p, chip.held(true, p), -1);
            Due.same("new held data " + p, chip.held(false, p), -1);
        }
        for (int k = 0; k < 32; k++) {
            Due.same("new register " + k, chip.register(k), 0);
        }
        for (int n : new int[] {768, 772, 773, 832, 833, 834, 835, 836, 3072}) {
            Due.same("new control " + n, chip.control(n), 0);
        }
        Due.same("new pc", chip.pc(), 0);
        Due.same("new cycles", chip.cycles(), 0);
        Due.same("new traps", chip.traps(), 0);
        Due.same("new planned", chip.planned(), 0);
        Due.same("new sending", chip.queued(true), 0);
        Due.same("new received", chip.queued(false), 0);
        Due.same("new stores", chip.stores(), 0);
        Due.same("new bus", chip.bus(), 0);
        Due.same("new sources", chip.sources(), 0);
        Due.same("new sent count", chip.sent(-1), 0);
        Due.same("new sent", chip.sent(0), -1);
        Due.same("new actCycle", chip.actCycle(0), -1);
        Due.same("new actAddress", chip.actAddress(0), -1);
    }

    /** CODE is wanted in cycle 0, begun in 1, and takes 4 * L. */
    private static void latencyIsClamped() {
        int[][] cases = {{Integer.MIN_VALUE, 1}, {-1, 1}, {0, 1}, {1, 1}, {2, 2}, {7, 7}, {8, 8},
            {9, 8}, {Integer.MAX_VALUE, 8}};
        for (int[] c : cases) {
            CycleChip chip = new CycleChip(c[0], 8);
            Asm.put(chip, 0, Asm.NOP);
            Due.same("latency " + c[0] + " early", chip.run(1 + 4 * c[1]), 0);
            Due.same("latency " + c[0] + " in time", chip.run(1), 1);
            Due.same("latency " + c[0] + " cycle", chip.actCycle(0), 1 + 4 * c[1]);
        }
    }

    /** Block 0 leaves the cache when the block N is fetched, and not before. */
    private static void linesAreClamped() {
        int[][] cases = {{Integer.MIN_VALUE, 1}, {-1, 1}, {0, 1}, {1, 1}, {2, 2}, {5, 5}, {7, 7}, {8, 8},
            {9, 8}, {Integer.MAX_VALUE, 8}};
        for (int[] c : cases) {
            for (int block = 1; block < 16; block++) {
                CycleChip chip = new CycleChip(1, c[0]);
                Asm.put(chip, 0, Asm.jal(0, 16 * block));
                Asm.put(chip, 4 * block, Asm.STAY);
                chip.run(20);
                boolean gone = block % c[1] == 0;
                Due.same("lines " + c[0] + " block 0 after " + block, chip.held(true, 0), gone ? -1 : Asm.jal(0, 16 * block));
                Due.same("lines " + c[0] + " block " + block, chip.held(true, 4 * block), Asm.STAY);
            }
        }
    }

    private static void devicesAtFirst() {
        int[] want = {0, 0, -1, -1, 0, 0, 0, 0, 0, 0, 0, 0, -1, 0, 1, 0};
        for (int r = 1; r < 16; r++) {
            CycleChip chip = Asm.chip(Asm.deviceBase(), Asm.loadDevice(1, r), Asm.STAY);
            chip.give(1, 99);
            chip.run(20);
            Due.same("device register " + r + " at first", chip.register(1), want[r]);
        }
    }

    private static void objectsAreApart() {
        CycleChip one = Asm.chip(Asm.li(1, 5), Asm.sw(1, 256, 0), Asm.STAY);
        CycleChip other = Asm.chip(Asm.STAY);
        one.run(50);
        Due.same("one object's word", one.peek(64), 5);
        Due.same("the other object's word", other.peek(64), 0);
        Due.same("the other object's cycles", other.cycles(), 0);
    }
}
