/** Promises 9 and 10: plan and planned. */
public final class PlanTest {
    public static void main(String[] args) {
        refusals();
        sixteenAtMost();
        theCycleOfAnEvent();
        orderOfPlanning();
        linesGoUpAndDown();
        farAway();
        Due.end();
    }

    private static void refusals() {
        CycleChip chip = new CycleChip(1, 1);
        for (int delay : new int[] {-1, 2001, Integer.MIN_VALUE, Integer.MAX_VALUE}) {
            Due.same("delay " + delay, chip.plan(delay, 0, 1), false);
        }
        for (int what : new int[] {-1, 1, 8, 9, Integer.MIN_VALUE, Integer.MAX_VALUE}) {
            Due.same("what " + what, chip.plan(0, what, 1), false);
        }
        Due.same("nothing is planned", chip.planned(), 0);
        for (int what : new int[] {0, 2, 3, 4, 5, 6, 7}) {
            Due.same("what " + what, chip.plan(0, what, 1), true);
        }
        Due.same("delay 2000", chip.plan(2000, 0, 1), true);
        Due.same("all of these", chip.planned(), 8);
        chip.run(1);
        Due.same("one is left", chip.planned(), 1);
        Due.same("six lines", chip.sources(), 252);
        Due.same("one byte", chip.queued(false), 1);
    }

    private static void sixteenAtMost() {
        CycleChip chip = new CycleChip(1, 1);
        for (int k = 0; k < 16; k++) {
            Due.same("plan " + k, chip.plan(k / 8, 0, k), true);
            Due.same("planned " + k, chip.planned(), k + 1);
        }
        Due.same("the seventeenth", chip.plan(5, 0, 1), false);
        Due.same("planned still", chip.planned(), 16);
        chip.run(1);
        Due.same("eight happened", chip.planned(), 8);
        for (int k = 0; k < 8; k++) {
            Due.same("again " + k, chip.plan(0, 2, 1), true);
        }
        Due.same("full again", chip.plan(0, 2, 1), false);
        chip.run(1);
        Due.same("all happened", chip.planned(), 0);
        Due.same("eight bytes at most", chip.queued(false), 8);
    }

    private static void theCycleOfAnEvent() {
        for (int delay = 0; delay < 6; delay++) {
            CycleChip chip = new CycleChip(1, 1);
            chip.run(3);
            chip.plan(delay, 0, 1);
            chip.run(delay);
            Due.same("not yet after " + delay, chip.queued(false), 0);
            Due.same("still planned after " + delay, chip.planned(), 1);
            chip.run(1);
            Due.same("in the next cycle", chip.queued(false), 1);
            Due.same("planned no more", chip.planned(), 0);
            chip.run(100);
            Due.same("once only", chip.queued(false), 1);
        }
    }

    /** Bytes of one cycle come in the order in which they were planned, and as value & 255. */
    private static void orderOfPlanning() {
        CycleChip chip = Asm.chip(Asm.deviceBase(), Asm.loadDevice(1, 12), Asm.loadDevice(2, 12), Asm.loadDevice(3, 12),
            Asm.loadDevice(4, 12), Asm.loadDevice(5, 12), Asm.STAY);
        chip.plan(3, 0, 65);
        chip.plan(2, 0, -1);
        chip.plan(3, 0, 256 + 7);
        chip.plan(2, 0, 0);
        chip.plan(3, 3, 1);
        chip.plan(3, 3, 0);
        chip.run(60);
        int[] want = {0, 255, 0, 65, 7, -1};
        for (int k = 1; k <= 5; k++) {
            Due.same("byte " + k, chip.register(k), want[k]);
        }
        Due.same("up and down within EVENTS", chip.sources(), 0);
    }

    private static void linesGoUpAndDown() {
        for (int s = 2; s < 8; s++) {
            CycleChip chip = new CycleChip(1, 1);
            chip.plan(4, s, Integer.MIN_VALUE);
            chip.plan(6, s, 0);
            chip.plan(5, s, 256);
            chip.run(4);
            Due.same("line of " + s + " low", chip.sources(), 0);
            chip.run(1);
            Due.same("line of " + s + " high", chip.sources(), 1 << s);
            chip.run(5);
            Due.same("pending " + s + " stays", chip.sources(), 1 << s);
            Due.same("planned of " + s, chip.planned(), 0);
        }
    }

    private static void farAway() {
        CycleChip chip = new CycleChip(1, 1);
        chip.plan(2000, 0, 9);
        chip.plan(1999, 7, 9);
        chip.run(1000);
        chip.run(999);
        Due.same("1999 cycles are over", chip.planned(), 2);
        chip.run(1);
        Due.same("2000 cycles are over", chip.planned(), 1);
        Due.same("the line", chip.sources(), 128);
        chip.run(1);
        Due.same("2001 cycles are over", chip.planned(), 0);
        Due.same("the byte", chip.queued(false), 1);
    }
}
