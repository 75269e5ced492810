/** Promises 11 to 15: run, cycles, traps, actCycle, actAddress. */
public final class RunTest {
    public static void main(String[] args) {
        runTooSmallOrTooLarge();
        runOfNoCycle();
        runOfMostCycles();
        straightOn();
        rests();
        logOfActs();
        logRefusesOthers();
        twoInOneCycle();
        trapsAreNoActs();
        inSteps();
        Due.end();
    }

    /** run: "-1, and no cycle, for another n". */
    private static void runTooSmallOrTooLarge() {
        CycleChip chip = Asm.chip(Asm.STAY);
        chip.plan(0, 0, 1);
        for (int n : new int[] {-1, -1000, 1001, 1002, 2000, Integer.MIN_VALUE, Integer.MAX_VALUE}) {
            Due.same("run " + n, chip.run(n), -1);
            Due.same("cycles after run " + n, chip.cycles(), 0);
            Due.same("planned after run " + n, chip.planned(), 1);
        }
        Due.same("then the first cycles", chip.run(6), 1);
        Due.same("cycles", chip.cycles(), 6);
    }

    /** run: "n cycles (0 .. 1000)", the least. */
    private static void runOfNoCycle() {
        CycleChip chip = Asm.chip(Asm.STAY);
        chip.plan(0, 0, 1);
        Due.same("run 0", chip.run(0), 0);
        Due.same("cycles after run 0", chip.cycles(), 0);
        Due.same("nothing happens in it", chip.planned(), 1);
        chip.run(5);
        Due.same("run 0 before an act", chip.run(0), 0);
        Due.same("run 1 is that act", chip.run(1), 1);
        Due.same("run 0 behind an act", chip.run(0), 0);
    }

    /** run: "n cycles (0 .. 1000)", the most. */
    private static void runOfMostCycles() {
        CycleChip chip = Asm.chip(Asm.STAY);
        Due.same("run 1000", chip.run(1000), 498);
        Due.same("cycles after run 1000", chip.cycles(), 1000);
        Due.same("run 1", chip.run(1), 0);
        Due.same("cycles after run 1", chip.cycles(), 1001);
        Due.same("run 999", chip.run(999), 500);
        Due.same("cycles after run 999", chip.cycles(), 2000);
        Due.same("no trap", chip.traps(), 0);
    }

    /** With L = 3 a block is wanted in c, begun in c + 1 and there in c + 13. */
    private static void straightOn() {
        CycleChip chip = new CycleChip(3, 8);
        for (int p = 0; p < 12; p++) {
            chip.poke(p, Asm.addi(1, 1, 1));
        }
        int[] due = {13, 14, 15, 16, 30, 31, 32, 33, 47, 48, 49, 50};
        int done = 0;
        for (int c = 0; c <= 50; c++) {
            boolean acts = c == due[done];
            Due.same("cycle " + c, chip.run(1), acts ? 1 : 0);
            if (acts) {
                Due.same("actCycle", chip.actCycle(0), c);
                Due.same("actAddress", chip.actAddress(0), 4 * done);
                done++;
            }
        }
        Due.same("register", chip.register(1), 12);
    }

    /** "Rests for k cycles": for 1, for 7 and not at all. */
    private static void rests() {
        int[][] cases = {{Asm.NOP, 0}, {Asm.mul(1, 2, 3), 1}, {Asm.r(51, 1, 1, 1, 2, 3), 1},
            {Asm.r(51, 2, 1, 1, 2, 3), 1}, {Asm.r(51, 3, 1, 1, 2, 3), 1}, {Asm.div(1, 2, 3), 7},
            {Asm.r(51, 5, 1, 1, 2, 3), 7}, {Asm.r(51, 6, 1, 1, 2, 3), 7}, {Asm.r(51, 7, 1, 1, 2, 3), 7},
            {Asm.jal(1, 4), 1}, {Asm.jalr(1, 0, 4), 1}, {Asm.branch(0, 0, 0, 4), 1}, {Asm.branch(1, 0, 0, 4), 0},
            {Asm.csrrw(1, Asm.MSCRATCH, 2), 0}, {Asm.sw(1, 256, 0), 0}, {Asm.FENCE, 0}, {Asm.add(1, 2, 3), 0}};
        for (int[] c : cases) {
            CycleChip chip = Asm.chip(c[0], Asm.NOP);
            Due.same("word " + c[0], chip.run(6), 1);
            Due.same("rest after " + c[0], chip.run(c[1]), 0);
            Due.same("then after " + c[0], chip.run(1), 1);
            Due.same("cycle after " + c[0], chip.actCycle(0), 6 + c[1]);
            Due.same("address after " + c[0], chip.actAddress(0), 4);
        }
    }

    /** A loop whose k-th act is told by cycleOf and addressOf, when so many have acted. */
    private static CycleChip afterActs(int acted) {
        CycleChip chip = Asm.chip(Asm.NOP, Asm.addi(1, 1, 1), Asm.branch(0, 0, 0, -4));
        Due.same("acts until " + acted, chip.run(acted == 0 ? 0 : cycleOf(acted - 1) + 1), acted);
        return chip;
    }

    /** actCycle, actAddress: "-1 when ... not so many have acted", for 0 acts, up to 15, 16, and more than 16. */
    private static void logOfActs() {
        for (int acted = 0; acted < 40; acted++) {
            CycleChip chip = afterActs(acted);
            for (int k = 0; k < 16; k++) {
                boolean known = k < acted;
                Due.same("actCycle " + k + " of " + acted, chip.actCycle(k), known ? cycleOf(acted - 1 - k) : -1);
                Due.same("actAddress " + k + " of " + acted, chip.actAddress(k), known ? addressOf(acted - 1 - k) : -1);
            }
        }
    }

    /** actCycle, actAddress: "-1 when k is not 0 .. 15", though more than 16 have acted. */
    private static void logRefusesOthers() {
        for (int acted : new int[] {0, 1, 15, 16, 17, 33, 200}) {
            CycleChip chip = afterActs(acted);
            for (int k : new int[] {-1, -2, -16, 16, 17, 32, Integer.MIN_VALUE, Integer.MAX_VALUE}) {
                Due.same("actCycle " + k + " of " + acted, chip.actCycle(k), -1);
                Due.same("actAddress " + k + " of " + acted, chip.actAddress(k), -1);
            }
        }
    }

    /** One at 5 in cycle 5, then pairs: the addition, and the jump with its cycle of rest. */
    private static int cycleOf(int k) {
        return k == 0 ? 5 : 6 + (k - 1) / 2 * 3 + (k - 1) % 2;
    }

    private static int addressOf(int k) {
        return k == 0 ? 0 : k % 2 == 1 ? 4 : 8;
    }

    /** A DEVICE that is done in BUS lets the core go on in CORE of the same cycle. */
    private static void twoInOneCycle() {
        CycleChip chip = Asm.chip(Asm.deviceBase(), Asm.loadDevice(1, 0), Asm.NOP, Asm.STAY);
        Due.same("until the device is asked", chip.run(8), 1);
        Due.same("the load and the next", chip.run(1), 2);
        Due.same("cycle of the next", chip.actCycle(0), 8);
        Due.same("cycle of the load", chip.actCycle(1), 8);
        Due.same("address of the next", chip.actAddress(0), 8);
        Due.same("address of the load", chip.actAddress(1), 4);
        Due.same("TIME in that cycle", chip.register(1), 8);
    }

    /** run: "(one that raised a TRAP did not)" act. */
    private static void trapsAreNoActs() {
        CycleChip chip = Asm.chip(Asm.li(1, 2), Asm.csrrw(0, Asm.MTVEC, 1), Asm.ECALL);
        Due.same("two act", chip.run(8), 2);
        Due.same("one trap", chip.traps(), 1);
        Due.same("the latest act", chip.actAddress(0), 4);
        Due.same("rest, then from 0 again", chip.run(2), 1);
        Due.same("still one", chip.traps(), 1);
        chip.run(2);
        Due.same("two", chip.traps(), 2);
        Due.same("refused run", chip.run(-5), -1);
        Due.same("two still", chip.traps(), 2);
    }

    private static void inSteps() {
        CycleChip whole = Asm.chip(Asm.lw(1, 0, 0), Asm.mul(2, 1, 1), Asm.sw(2, 256, 0), Asm.jal(0, -12));
        CycleChip parts = Asm.chip(Asm.lw(1, 0, 0), Asm.mul(2, 1, 1), Asm.sw(2, 256, 0), Asm.jal(0, -12));
        int acted = 0;
        for (int k = 0; k < 400; k++) {
            acted += parts.run(1);
        }
        Due.same("the same in steps", whole.run(400), acted);
        Due.same("the same cycle", whole.actCycle(15), parts.actCycle(15));
    }
}
