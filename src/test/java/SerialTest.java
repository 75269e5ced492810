/** Promises 16 and 17: sent and queued, with the serial port's registers. */
public final class SerialTest {
    public static void main(String[] args) {
        oneByteOut();
        oneAfterTheOther();
        divisorOfTheBeginning();
        divisorIsKept();
        sendingQueueIsFull();
        sixteenLatest();
        receivedQueue();
        overrun();
        state();
        Due.end();
    }

    /** Stored in BUS of cycle 9, begun in SENDER of 10, out in 20. */
    private static void oneByteOut() {
        CycleChip chip = Asm.chip(Asm.NOP, Asm.deviceBase(), Asm.storeDevice(1, 12), Asm.STAY);
        chip.give(1, 0x1234);
        chip.run(9);
        Due.same("not stored", chip.queued(true), 0);
        chip.run(1);
        Due.same("stored", chip.queued(true), 1);
        Due.same("not in the other queue", chip.queued(false), 0);
        chip.run(1);
        Due.same("begun", chip.queued(true), 0);
        Due.same("none is out", chip.sent(-1), 0);
        Due.same("none is out", chip.sent(0), -1);
        chip.run(9);
        Due.same("still none", chip.sent(-1), 0);
        chip.run(1);
        Due.same("one is out", chip.sent(-1), 1);
        Due.same("the byte and its cycle", chip.sent(0), 0x34 + 256 * 20);
        Due.same("no second", chip.sent(1), -1);
        chip.run(100);
        Due.same("once", chip.sent(-1), 1);
        for (int k : new int[] {-2, 1, 15, 16, 17, Integer.MIN_VALUE, Integer.MAX_VALUE}) {
            Due.same("sent " + k, chip.sent(k), -1);
        }
    }

    /** The stores are done in cycles 8, 10 and 18 (a block comes between); the first is begun in 9. */
    private static void oneAfterTheOther() {
        CycleChip chip = Asm.chip(Asm.deviceBase(), Asm.storeDevice(1, 12), Asm.storeDevice(2, 12), Asm.NOP,
            Asm.storeDevice(3, 12), Asm.STAY);
        chip.give(1, 1);
        chip.give(2, -1);
        chip.give(3, 3);
        chip.run(100);
        Due.same("three", chip.sent(-1), 3);
        Due.same("first", chip.sent(2), 1 + 256 * 19);
        Due.same("second, begun when the first was out", chip.sent(1), 255 + 256 * 29);
        Due.same("third", chip.sent(0), 3 + 256 * 39);
    }

    /** The first byte is begun with a divisor of 3, which changes while it is sent. */
    private static void divisorOfTheBeginning() {
        CycleChip chip = Asm.chip(Asm.deviceBase(), Asm.storeDevice(1, 14), Asm.storeDevice(1, 12), Asm.storeDevice(2, 12),
            Asm.storeDevice(2, 14), Asm.STAY);
        chip.give(1, 3);
        chip.give(2, 2);
        chip.run(100);
        long first = chip.sent(1) / 256;
        Due.same("first", chip.sent(1), 3 + 256 * (11 + 30));
        Due.same("second", chip.sent(0), 2 + 256 * (first + 20));
    }

    private static void divisorIsKept() {
        int[][] cases = {{0, 1}, {1, 1}, {2, 2}, {255, 255}, {256, 1}, {257, 1}, {-1, 255}, {512 + 9, 9}};
        for (int[] c : cases) {
            CycleChip chip = Asm.chip(Asm.deviceBase(), Asm.storeDevice(1, 14), Asm.loadDevice(2, 14), Asm.storeDevice(1, 12),
                Asm.STAY);
            chip.give(1, c[0]);
            chip.run(1000);
            chip.run(1000);
            chip.run(1000);
            Due.same("divisor of " + c[0], chip.register(2), c[1]);
            Due.same("out with " + c[0], chip.sent(0), (c[0] & 255) + 256L * (13 + 10 * c[1]));
        }
    }

    /** One byte is on its way, eight wait, the others are lost. */
    private static void sendingQueueIsFull() {
        CycleChip chip = Asm.chip(Asm.deviceBase(), Asm.li(2, 255), Asm.storeDevice(2, 14), Asm.NOP,
            Asm.addi(1, 1, 1), Asm.storeDevice(1, 12), Asm.loadDevice(3, 13), Asm.branch(1, 1, 4, -12), Asm.STAY);
        chip.give(4, 8);
        chip.run(110);
        Due.same("seven wait", chip.queued(true), 7);
        Due.same("state", chip.register(3), 8);
        chip = Asm.chip(Asm.deviceBase(), Asm.li(2, 255), Asm.storeDevice(2, 14), Asm.NOP,
            Asm.addi(1, 1, 1), Asm.storeDevice(1, 12), Asm.loadDevice(3, 13), Asm.branch(1, 1, 4, -12), Asm.STAY);
        chip.give(4, 12);
        chip.run(1000);
        Due.same("eight wait", chip.queued(true), 8);
        Due.same("state when full", chip.register(3), 10);
        for (int k = 0; k < 30; k++) {
            chip.run(1000);
        }
        Due.same("nine were out", chip.sent(-1), 9);
        Due.same("the ninth", chip.sent(0) % 256, 9);
        Due.same("the first", chip.sent(8) % 256, 1);
        Due.same("2550 cycles a byte", (chip.sent(0) / 256 - chip.sent(8) / 256), 8 * 2550);
    }

    private static void sixteenLatest() {
        CycleChip chip = Asm.chip(Asm.deviceBase(), Asm.addi(1, 1, 1), Asm.storeDevice(1, 12), Asm.li(2, 8),
            Asm.addi(2, 2, -1), Asm.branch(1, 2, 0, -4), Asm.jal(0, -20));
        for (int round = 0; round < 40; round++) {
            chip.run(27);
            long count = chip.sent(-1);
            for (int k = 0; k < 16; k++) {
                Due.same("sent " + k, k < count ? chip.sent(k) % 256 : chip.sent(k), k < count ? count - k : -1);
            }
            Due.same("sent 16", chip.sent(16), -1);
        }
        Due.same("more than sixteen", chip.sent(-1) > 20, true);
    }

    private static void receivedQueue() {
        CycleChip chip = Asm.chip(Asm.deviceBase(), Asm.loadDevice(1, 12), Asm.loadDevice(2, 12), Asm.loadDevice(3, 12),
            Asm.STAY);
        chip.plan(0, 0, 200);
        chip.plan(1, 0, 100);
        Due.same("none yet", chip.queued(false), 0);
        chip.run(1);
        Due.same("one", chip.queued(false), 1);
        Due.same("not in the other", chip.queued(true), 0);
        chip.run(1);
        Due.same("two", chip.queued(false), 2);
        chip.run(6);
        Due.same("two before the load is done", chip.queued(false), 2);
        chip.run(1);
        Due.same("the first is taken", chip.queued(false), 1);
        Due.same("the first", chip.register(1), 200);
        chip.run(10);
        Due.same("the second", chip.register(2), 100);
        Due.same("none", chip.register(3), -1);
        Due.same("empty", chip.queued(false), 0);
    }

    private static void overrun() {
        CycleChip chip = Asm.chip(Asm.deviceBase(), Asm.loadDevice(1, 13), Asm.storeDevice(0, 13), Asm.loadDevice(2, 13),
            Asm.loadDevice(3, 12), Asm.loadDevice(4, 12), Asm.loadDevice(4, 12), Asm.loadDevice(4, 12),
            Asm.loadDevice(4, 12), Asm.loadDevice(4, 12), Asm.loadDevice(4, 12), Asm.loadDevice(5, 12),
            Asm.loadDevice(6, 12), Asm.STAY);
        for (int k = 0; k < 9; k++) {
            chip.plan(k, 0, 10 + k);
        }
        chip.run(8);
        Due.same("eight", chip.queued(false), 8);
        chip.run(1);
        Due.same("eight still", chip.queued(false), 8);
        Due.same("state before, in BUS of 8", chip.register(1), 5);
        chip.run(100);
        Due.same("overrun ended", chip.register(2), 1);
        Due.same("the first", chip.register(3), 10);
        Due.same("the seventh", chip.register(4), 16);
        Due.same("the eighth", chip.register(5), 17);
        Due.same("the ninth is lost", chip.register(6), -1);
    }

    private static void state() {
        CycleChip chip = Asm.chip(Asm.deviceBase(), Asm.loadDevice(1, 13), Asm.storeDevice(0, 12), Asm.loadDevice(2, 13),
            Asm.STAY);
        chip.run(40);
        Due.same("nothing", chip.register(1), 0);
        Due.same("a byte is being sent", chip.register(2), 8);
        chip = Asm.chip(Asm.deviceBase(), Asm.storeDevice(1, 15), Asm.loadDevice(2, 15), Asm.STAY);
        chip.give(1, -2);
        chip.run(20);
        Due.same("two bits of ENABLES", chip.register(2), 2);
    }
}
