/** Promises 11 to 15: run, cycles, traps, actCycle, actAddress. */
public final class RunTest {
    public static void main(String[] args) {
        limits();
        straightOn();
        rests();
        logOfActs();
        twoInOneCycle();
        trapsAreNoActs();
        inSteps();
        Due.end();
    }

    private static void limits() {
        CycleChip chip = Asm.chip(Asm.STAY);
        for (int n : new int[] {-1, 1001, Integer.MIN_VALUE, Integer.MAX_VALUE}) {
            Due.same("run " + n, chip.run(n), -1);
            Due.same("cycles after run " + n, chip.cycles(), 0);
        }
        Due.same("run 0", chip.run(0), 0);
        Due.same("cycles after run 0", chip.cycles(), 0);
        Due.same("run 1000", chip.run(1000), 498);
        Due.same("cycles after run 1000", chip.cycles(), 1000);
        Due.same("run 1", chip.run(1), 0);
        Due.same("cycles after run 1", chip.cycles(), 1001);
        Due.same("no trap", chip.traps(), 0);
    }

    /** With L = 3 a block is wanted in c, begun in c + 1 and there in c + 13. */
    private static void straightOn() {
        CycleChip chip = new CycleChip(3, 8);
        for (int p = 0; p < 12; p++) {
            chip.poke(p, Asm.addi(1, 1, 1));
        }
        int[] due = {13, 14, 15, 16, 30, 31, 32, 33, 47, 48, 49, 50};
        int done = 0;
        for (int c = 0; c <= 50; c++) {
            boolean acts = c == due[done];
            Due.same("cycle " + c, chip.run(1), acts ? 1 : 0);
            if (acts) {
                Due.same("actCycle", chip.actCycle(0), c);
                Due.same("actAddress", chip.actAddress(0), 4 * done);
                done++;
            }
        }
        Due.same("register", chip.register(1), 12);
    }

    private static void rests() {
        int[][] cases = {{Asm.NOP, 0}, {Asm.mul(1, 2, 3), 1}, {Asm.r(51, 1, 1, 1, 2, 3), 1},
            {Asm.r(51, 2, 1, 1, 2, 3), 1}, {Asm.r(51, 3, 1, 1, 2, 3), 1}, {Asm.div(1, 2, 3), 7},
            {Asm.r(51, 5, 1, 1, 2, 3), 7}, {Asm.r(51, 6, 1, 1, 2, 3), 7}, {Asm.r(51, 7, 1, 1, 2, 3), 7},
            {Asm.jal(1, 4), 1}, {Asm.jalr(1, 0, 4), 1}, {Asm.branch(0, 0, 0, 4), 1}, {Asm.branch(1, 0, 0, 4), 0},
            {Asm.csrrw(1, Asm.MSCRATCH, 2), 0}, {Asm.sw(1, 256, 0), 0}, {Asm.FENCE, 0}, {Asm.add(1, 2, 3), 0}};
        for (int[] c : cases) {
            CycleChip chip = Asm.chip(c[0], Asm.NOP);
            Due.same("word " + c[0], chip.run(6), 1);
            Due.same("rest after " + c[0], chip.run(c[1]), 0);
            Due.same("then after " + c[0], chip.run(1), 1);
            Due.same("cycle after " + c[0], chip.actCycle(0), 6 + c[1]);
            Due.same("address after " + c[0], chip.actAddress(0), 4);
        }
    }

    private static void logOfActs() {
        CycleChip chip = Asm.chip(Asm.NOP, Asm.addi(1, 1, 1), Asm.branch(0, 0, 0, -4));
        for (int acted = 0; acted < 40; acted++) {
            for (int k = -2; k < 20; k++) {
                boolean known = k >= 0 && k < 16 && k < acted;
                Due.same("actCycle " + k + " of " + acted, chip.actCycle(k), known ? cycleOf(acted - 1 - k) : -1);
                Due.same("actAddress " + k + " of " + acted, chip.actAddress(k), known ? addressOf(acted - 1 - k) : -1);
            }
            Due.same("actCycle MIN", chip.actCycle(Integer.MIN_VALUE), -1);
            Due.same("actAddress MAX", chip.actAddress(Integer.MAX_VALUE), -1);
            Due.same("one more", chip.run(cycleOf(acted) + 1 - chip.cycles()), 1);
        }
    }

    /** One at 5 in cycle 5, then pairs: the addition, and the jump with its cycle of rest. */
    private static int cycleOf(int k) {
        return k == 0 ? 5 : 6 + (k - 1) / 2 * 3 + (k - 1) % 2;
    }

    private static int addressOf(int k) {
        return k == 0 ? 0 : k % 2 == 1 ? 4 : 8;
    }

    /** A DEVICE that is done in BUS lets the core go on in CORE of the same cycle. */
    private static void twoInOneCycle() {
        CycleChip chip = Asm.chip(Asm.deviceBase(), Asm.loadDevice(1, 0), Asm.NOP, Asm.STAY);
        Due.same("until the device is asked", chip.run(8), 1);
        Due.same("the load and the next", chip.run(1), 2);
        Due.same("cycle of the next", chip.actCycle(0), 8);
        Due.same("cycle of the load", chip.actCycle(1), 8);
        Due.same("address of the next", chip.actAddress(0), 8);
        Due.same("address of the load", chip.actAddress(1), 4);
        Due.same("TIME in that cycle", chip.register(1), 8);
    }

    private static void trapsAreNoActs() {
        CycleChip chip = Asm.chip(Asm.li(1, 2), Asm.csrrw(0, Asm.MTVEC, 1), Asm.ECALL);
        Due.same("two act", chip.run(8), 2);
        Due.same("one trap", chip.traps(), 1);
        Due.same("the latest act", chip.actAddress(0), 4);
        Due.same("rest, then from 0 again", chip.run(2), 1);
        Due.same("still one", chip.traps(), 1);
        chip.run(2);
        Due.same("two", chip.traps(), 2);
        Due.same("refused run", chip.run(-5), -1);
        Due.same("two still", chip.traps(), 2);
    }

    private static void inSteps() {
        CycleChip whole = Asm.chip(Asm.lw(1, 0, 0), Asm.mul(2, 1, 1), Asm.sw(2, 256, 0), Asm.jal(0, -12));
        CycleChip parts = Asm.chip(Asm.lw(1, 0, 0), Asm.mul(2, 1, 1), Asm.sw(2, 256, 0), Asm.jal(0, -12));
        int acted = 0;
        for (int k = 0; k < 400; k++) {
            acted += parts.run(1);
        }
        Due.same("the same in steps", whole.run(400), acted);
        Due.same("the same cycle", whole.actCycle(15), parts.actCycle(15));
    }
}
