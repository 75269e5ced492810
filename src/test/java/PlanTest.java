/** Promises 9 and 10: plan and planned. */
public final class PlanTest {
    public static void main(String[] args) {
        delayTooSmallOrTooLarge();
        leastAndGreatestDelay();
        whatIsNone();
        everyWhat();
        sixteenAtMost();
        roomAfterOneHappened();
        refusedForTwoReasons();
        theCycleOfAnEvent();
        orderOfPlanning();
        orderAcrossCalls();
        bytesAreCut();
        linesGoUpAndDown();
        anyValueButZeroIsHigh();
        farAway();
        Due.end();
    }

    /** plan: "false when delay is not 0 .. 2000", and nothing is planned. */
    private static void delayTooSmallOrTooLarge() {
        CycleChip chip = new CycleChip(1, 1);
        for (int delay : new int[] {-1, -2000, 2001, 2002, 4000, Integer.MIN_VALUE, Integer.MAX_VALUE}) {
            for (int what : new int[] {0, 2, 7}) {
                Due.same("delay " + delay + " what " + what, chip.plan(delay, what, 1), false);
            }
        }
        Due.same("nothing is planned", chip.planned(), 0);
        chip.run(1000);
        chip.run(1000);
        chip.run(1000);
        Due.same("no byte came", chip.queued(false), 0);
        Due.same("no line became high", chip.sources(), 0);
    }

    /** "delay ... 0 .. 2000": both ends are planned. */
    private static void leastAndGreatestDelay() {
        CycleChip chip = new CycleChip(1, 1);
        Due.same("delay 0", chip.plan(0, 0, 1), true);
        Due.same("delay 2000", chip.plan(2000, 0, 1), true);
        Due.same("both", chip.planned(), 2);
        chip.run(1);
        Due.same("the first", chip.queued(false), 1);
        chip.run(1000);
        chip.run(999);
        Due.same("2000 cycles are over", chip.planned(), 1);
        chip.run(1);
        Due.same("the second", chip.queued(false), 2);
    }

    /** plan: "false when ... what is none of these", source 1 among them, and nothing is planned. */
    private static void whatIsNone() {
        CycleChip chip = new CycleChip(1, 1);
        for (int what : new int[] {-1, -7, 1, 8, 9, 16, Integer.MIN_VALUE, Integer.MAX_VALUE}) {
            Due.same("what " + what, chip.plan(0, what, 1), false);
            Due.same("what " + what + " with 0", chip.plan(0, what, 0), false);
        }
        Due.same("nothing is planned", chip.planned(), 0);
        chip.run(5);
        Due.same("no byte came", chip.queued(false), 0);
        Due.same("no line became high", chip.sources(), 0);
    }

    private static void everyWhat() {
        CycleChip chip = new CycleChip(1, 1);
        for (int what : new int[] {0, 2, 3, 4, 5, 6, 7}) {
            Due.same("what " + what, chip.plan(0, what, 1), true);
        }
        Due.same("all of these", chip.planned(), 7);
        chip.run(1);
        Due.same("none is left", chip.planned(), 0);
        Due.same("six lines", chip.sources(), 252);
        Due.same("one byte", chip.queued(false), 1);
    }

    /** plan: "false when ... 16 planned events have not happened yet". */
    private static void sixteenAtMost() {
        CycleChip chip = new CycleChip(1, 1);
        Due.same("none is planned", chip.planned(), 0);
        for (int k = 0; k < 16; k++) {
            Due.same("plan " + k, chip.plan(10 + k, 2, 1), true);
            Due.same("planned " + k, chip.planned(), k + 1);
        }
        Due.same("the seventeenth, a line", chip.plan(0, 3, 1), false);
        Due.same("the seventeenth, a byte", chip.plan(0, 0, 1), false);
        Due.same("planned still", chip.planned(), 16);
        chip.run(10);
        Due.same("sixteen have not happened yet", chip.plan(0, 3, 1), false);
        Due.same("no event of those refused", chip.sources(), 0);
        Due.same("no byte of those refused", chip.queued(false), 0);
    }

    /** "16 planned events have not happened yet": when one of them has, there is room for one, and for all at last. */
    private static void roomAfterOneHappened() {
        CycleChip chip = new CycleChip(1, 1);
        for (int k = 0; k < 16; k++) {
            chip.plan(k == 5 ? 0 : 9, 2, 1);
        }
        Due.same("full", chip.plan(9, 3, 1), false);
        chip.run(1);
        Due.same("one happened", chip.planned(), 15);
        Due.same("one more", chip.plan(8, 3, 1), true);
        Due.same("full again", chip.plan(8, 4, 1), false);
        chip.run(9);
        Due.same("all happened", chip.planned(), 0);
        Due.same("their lines", chip.sources(), 4 | 8);
        for (int k = 0; k < 16; k++) {
            Due.same("again " + k, chip.plan(0, 5, 1), true);
        }
        Due.same("full once more", chip.plan(0, 6, 1), false);
        chip.run(1);
        Due.same("all in one cycle", chip.planned(), 0);
        Due.same("the line of source 5", chip.sources(), 4 | 8 | 32);
    }

    private static void refusedForTwoReasons() {
        CycleChip chip = new CycleChip(1, 1);
        Due.same("delay and what", chip.plan(-1, 1, 1), false);
        for (int k = 0; k < 16; k++) {
            chip.plan(100, 0, k);
        }
        Due.same("delay and full", chip.plan(2001, 0, 1), false);
        Due.same("what and full", chip.plan(0, 8, 1), false);
        Due.same("planned", chip.planned(), 16);
    }

    /** "for the cycle that comes when delay more cycles are over (0: the next one)". */
    private static void theCycleOfAnEvent() {
        for (int delay = 0; delay < 6; delay++) {
            CycleChip chip = new CycleChip(1, 1);
            chip.run(3);
            chip.plan(delay, 0, 1);
            chip.run(delay);
            Due.same("not yet after " + delay, chip.queued(false), 0);
            Due.same("still planned after " + delay, chip.planned(), 1);
            chip.run(1);
            Due.same("in the next cycle", chip.queued(false), 1);
            Due.same("planned no more", chip.planned(), 0);
            chip.run(100);
            Due.same("once only", chip.queued(false), 1);
        }
    }

    /** "the planned events whose cycle is c happen, in the order in which they were planned". */
    private static void orderOfPlanning() {
        CycleChip chip = Asm.chip(Asm.deviceBase(), Asm.loadDevice(1, 12), Asm.loadDevice(2, 12), Asm.loadDevice(3, 12),
            Asm.loadDevice(4, 12), Asm.loadDevice(5, 12), Asm.STAY);
        chip.plan(3, 0, 65);
        chip.plan(2, 0, -1);
        chip.plan(3, 0, 256 + 7);
        chip.plan(2, 0, 0);
        chip.plan(3, 3, 1);
        chip.plan(3, 3, 0);
        chip.run(60);
        int[] want = {0, 255, 0, 65, 7, -1};
        for (int k = 1; k <= 5; k++) {
            Due.same("byte " + k, chip.register(k), want[k]);
        }
        Due.same("up and down within EVENTS", chip.sources(), 0);
    }

    /** "in the order in which they were planned": also when an event that was planned earlier has left its place. */
    private static void orderAcrossCalls() {
        CycleChip chip = Asm.chip(Asm.deviceBase(), Asm.loadDevice(1, 12), Asm.loadDevice(2, 12), Asm.STAY);
        chip.plan(0, 6, 1);
        chip.plan(4, 0, 11);
        chip.plan(4, 3, 0);
        chip.plan(4, 4, 1);
        chip.run(2);
        chip.plan(2, 0, 22);
        chip.plan(2, 3, 1);
        chip.plan(2, 4, 0);
        chip.run(60);
        Due.same("planned first", chip.register(1), 11);
        Due.same("planned later", chip.register(2), 22);
        Due.same("low, then high; and high, then low", chip.sources(), 1 << 6 | 1 << 3);
    }

    /** "the byte value & 255 arrives". */
    private static void bytesAreCut() {
        int[] values = {0, 1, 255, 256, 257, -1, -256, Integer.MIN_VALUE, Integer.MAX_VALUE};
        for (int v : values) {
            CycleChip chip = Asm.chip(Asm.deviceBase(), Asm.loadDevice(1, 12), Asm.STAY);
            chip.give(1, 12345);
            Due.same("plan byte " + v, chip.plan(0, 0, v), true);
            chip.run(20);
            Due.same("byte of " + v, chip.register(1), v & 255);
        }
    }

    /** "the line of that source becomes high when value is not 0, else low". */
    private static void anyValueButZeroIsHigh() {
        for (int v : new int[] {0, 1, 2, 256, -1, 65536, Integer.MIN_VALUE, Integer.MAX_VALUE}) {
            CycleChip chip = new CycleChip(1, 1);
            chip.plan(0, 4, v);
            chip.run(1);
            Due.same("line with " + v, chip.sources(), v == 0 ? 0 : 16);
        }
    }

    private static void linesGoUpAndDown() {
        for (int s = 2; s < 8; s++) {
            CycleChip chip = new CycleChip(1, 1);
            chip.plan(4, s, Integer.MIN_VALUE);
            chip.plan(6, s, 0);
            chip.plan(5, s, 256);
            chip.run(4);
            Due.same("line of " + s + " low", chip.sources(), 0);
            chip.run(1);
            Due.same("line of " + s + " high", chip.sources(), 1 << s);
            chip.run(5);
            Due.same("pending " + s + " stays", chip.sources(), 1 << s);
            Due.same("planned of " + s, chip.planned(), 0);
        }
    }

    private static void farAway() {
        CycleChip chip = new CycleChip(1, 1);
        chip.plan(2000, 0, 9);
        chip.plan(1999, 7, 9);
        chip.run(1000);
        chip.run(999);
        Due.same("1999 cycles are over", chip.planned(), 2);
        chip.run(1);
        Due.same("2000 cycles are over", chip.planned(), 1);
        Due.same("the line", chip.sources(), 128);
        chip.run(1);
        Due.same("2001 cycles are over", chip.planned(), 0);
        Due.same("the byte", chip.queued(false), 1);
    }
}
