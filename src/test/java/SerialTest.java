/** Promises 16 and 17: sent and queued, with the serial port's registers. */
public final class SerialTest {
    public static void main(String[] args) {
        oneByteOut();
        oneAfterTheOther();
        nothingToSend();
        divisorOfTheBeginning();
        divisorIsKept();
        sendingQueueNotFull();
        sendingQueueIsFull();
        storeInTheCycleOfTheSender();
        storeBeforeTheCycleOfTheSender();
        sentOfTooFew();
        sentOfNoSuchPlace();
        receivedQueue();
        receivedQueueIsEmpty();
        eighthByteIsKept();
        ninthByteIsLost();
        byteInTheCycleOfTheLoad();
        queueGoesRound();
        overrunStays();
        overrunEnds();
        state();
        enablesAreKept();
        Due.end();
    }

    /** The cycle in which word p is done, when it and all before it but the first want DEVICE. */
    private static int doneCycle(int p) {
        return 6 + 13 * (p / 4) + 2 * (p % 4);
    }

    /** "(One that is being sent is in none.)": stored in BUS of cycle 9, begun in SENDER of 10, out in 20. */
    private static void oneByteOut() {
        CycleChip chip = Asm.chip(Asm.NOP, Asm.deviceBase(), Asm.storeDevice(1, 12), Asm.STAY);
        chip.give(1, 0x1234);
        chip.run(9);
        Due.same("not stored", chip.queued(true), 0);
        chip.run(1);
        Due.same("stored", chip.queued(true), 1);
        Due.same("not in the other queue", chip.queued(false), 0);
        chip.run(1);
        Due.same("begun, and in no queue", chip.queued(true), 0);
        Due.same("none is out", chip.sent(-1), 0);
        Due.same("none is out", chip.sent(0), -1);
        chip.run(9);
        Due.same("still none", chip.sent(-1), 0);
        chip.run(1);
        Due.same("one is out", chip.sent(-1), 1);
        Due.same("the byte and its cycle", chip.sent(0), 0x34 + 256 * 20);
        Due.same("no second", chip.sent(1), -1);
        chip.run(100);
        Due.same("once", chip.sent(-1), 1);
    }

    /** "if no byte is being sent (any more)": the stores are done in cycles 8, 10 and 18; the first is begun in 9. */
    private static void oneAfterTheOther() {
        CycleChip chip = Asm.chip(Asm.deviceBase(), Asm.storeDevice(1, 12), Asm.storeDevice(2, 12), Asm.NOP,
            Asm.storeDevice(3, 12), Asm.STAY);
        chip.give(1, 1);
        chip.give(2, -1);
        chip.give(3, 3);
        chip.run(100);
        Due.same("three", chip.sent(-1), 3);
        Due.same("first", chip.sent(2), 1 + 256 * 19);
        Due.same("second, begun when the first was out", chip.sent(1), 255 + 256 * 29);
        Due.same("third", chip.sent(0), 3 + 256 * 39);
    }

    /** "if ... the SENDING queue is not empty": from an empty one nothing is sent, and bytes received are not sent. */
    private static void nothingToSend() {
        CycleChip chip = Asm.chip(Asm.STAY);
        chip.plan(0, 0, 65);
        chip.run(1000);
        Due.same("none is out", chip.sent(-1), 0);
        Due.same("no byte is out", chip.sent(0), -1);
        Due.same("none waits", chip.queued(true), 0);
    }

    /** "with a DIVISOR of d at that time": the first byte is begun with 3, which changes while it is sent. */
    private static void divisorOfTheBeginning() {
        CycleChip chip = Asm.chip(Asm.deviceBase(), Asm.storeDevice(1, 14), Asm.storeDevice(1, 12), Asm.storeDevice(2, 12),
            Asm.storeDevice(2, 14), Asm.STAY);
        chip.give(1, 3);
        chip.give(2, 2);
        chip.run(100);
        long first = chip.sent(1) / 256;
        Due.same("first", chip.sent(1), 3 + 256 * (11 + 30));
        Due.same("second", chip.sent(0), 2 + 256 * (first + 20));
    }

    /** "14 DIVISOR (255 of it; 1 when that is 0)", and a byte "is out in cycle e + 10 * d". */
    private static void divisorIsKept() {
        int[][] cases = {{0, 1}, {1, 1}, {2, 2}, {254, 254}, {255, 255}, {256, 1}, {257, 1}, {-1, 255}, {-256, 1},
            {512 + 9, 9}, {Integer.MIN_VALUE, 1}};
        for (int[] c : cases) {
            CycleChip chip = Asm.chip(Asm.deviceBase(), Asm.storeDevice(1, 14), Asm.loadDevice(2, 14), Asm.storeDevice(1, 12),
                Asm.STAY);
            chip.give(1, c[0]);
            int begun = doneCycle(3) + 1;
            for (int left = begun + 10 * c[1]; left > 0; left -= 1000) {
                chip.run(Math.min(left, 1000));
            }
            Due.same("divisor of " + c[0], chip.register(2), c[1]);
            Due.same("a cycle too early with " + c[0], chip.sent(-1), 0);
            chip.run(1);
            Due.same("out with " + c[0], chip.sent(0), (c[0] & 255) + 256L * (begun + 10 * c[1]));
        }
    }

    /** Stores as many bytes (1, 2, ..) as register 4 says, with a divisor of 255, and loads STATE after each. */
    private static CycleChip sender(int bytes) {
        CycleChip chip = Asm.chip(Asm.deviceBase(), Asm.li(2, 255), Asm.storeDevice(2, 14), Asm.NOP,
            Asm.addi(1, 1, 1), Asm.storeDevice(1, 12), Asm.loadDevice(3, 13), Asm.branch(1, 1, 4, -12), Asm.STAY);
        chip.give(4, bytes);
        chip.run(1000);
        return chip;
    }

    /** "+ 2 when the sending queue has 8 bytes": not with 7, while one more byte is on its way. */
    private static void sendingQueueNotFull() {
        CycleChip chip = sender(8);
        Due.same("seven wait", chip.queued(true), 7);
        Due.same("state", chip.register(3), 8);
        chip = sender(9);
        Due.same("eight wait", chip.queued(true), 8);
        Due.same("state", chip.register(3), 8 + 2);
    }

    /** "it is lost when that has 8 bytes": one byte is on its way, eight wait, the others are lost. */
    private static void sendingQueueIsFull() {
        CycleChip chip = sender(12);
        Due.same("eight wait", chip.queued(true), 8);
        Due.same("state when full", chip.register(3), 8 + 2);
        for (int k = 0; k < 30; k++) {
            chip.run(1000);
        }
        Due.same("nine were out", chip.sent(-1), 9);
        for (int k = 0; k < 9; k++) {
            Due.same("byte out", chip.sent(k) % 256, 9 - k);
        }
        Due.same("2550 cycles a byte", (chip.sent(0) / 256 - chip.sent(8) / 256), 8 * 2550);
        Due.same("none waits", chip.queued(true), 0);
    }

    /**
     * Words 2 .. 10 store nine bytes; the first is begun in 11 and out in 51, when the queue is full. Then the last
     * store is done, in that cycle or in the one before.
     */
    private static CycleChip fullSender(int beforeTheLast, int lastDone) {
        CycleChip chip = Asm.chip(Asm.deviceBase(), Asm.storeDevice(4, 14));
        for (int k = 0; k < 9; k++) {
            chip.give(10 + k, 100 + k);
            chip.poke(2 + k, Asm.storeDevice(10 + k, 12));
        }
        Asm.put(chip, 11, Asm.loadDevice(2, 7), beforeTheLast, Asm.loadDevice(2, 7), Asm.loadDevice(2, 7),
            Asm.storeDevice(3, 12), Asm.STAY);
        chip.give(4, 4);
        chip.give(3, 200);
        chip.run(lastDone);
        Due.same("full", chip.queued(true), 8);
        Due.same("none is out", chip.sent(-1), 0);
        Due.same("the last store was not done before", chip.actAddress(0), 4 * 14);
        chip.run(1);
        Due.same("the last store", chip.actAddress(0), 4 * 15);
        Due.same("full all the same", chip.queued(true), 8);
        for (int k = 0; k < 10; k++) {
            chip.run(50);
        }
        return chip;
    }

    /** "it is lost when that has 8 bytes": SENDER is before BUS, so that a byte begun in that cycle has made room. */
    private static void storeInTheCycleOfTheSender() {
        CycleChip chip = fullSender(Asm.loadDevice(2, 7), 51);
        Due.same("ten were out", chip.sent(-1), 10);
        Due.same("the last", chip.sent(0), 200 + 256 * (11 + 10 * 40));
    }

    /** "it is lost when that has 8 bytes": one cycle earlier the queue still has them. */
    private static void storeBeforeTheCycleOfTheSender() {
        CycleChip chip = fullSender(Asm.NOP, 50);
        Due.same("nine were out", chip.sent(-1), 9);
        Due.same("the last", chip.sent(0), 108 + 256 * (11 + 9 * 40));
    }

    /** A chip that has sent the bytes 1, 2, .. for so many rounds of 27 cycles. */
    private static CycleChip counting(int rounds) {
        CycleChip chip = Asm.chip(Asm.deviceBase(), Asm.addi(1, 1, 1), Asm.storeDevice(1, 12), Asm.li(2, 8),
            Asm.addi(2, 2, -1), Asm.branch(1, 2, 0, -4), Asm.jal(0, -20));
        for (int k = 0; k < rounds; k++) {
            chip.run(27);
        }
        return chip;
    }

    /** sent: "-1 when ... not so many were out", for 0, up to 15, 16, and more than 16; "k = -1: how many were out". */
    private static void sentOfTooFew() {
        boolean[] seen = new boolean[100];
        for (int round = 0; round < 40; round++) {
            CycleChip chip = counting(round);
            int count = (int) chip.sent(-1);
            seen[count] = true;
            long later = 256L * chip.cycles();
            for (int k = 0; k < 16; k++) {
                long one = chip.sent(k);
                Due.same("sent " + k + " of " + count, k < count ? one % 256 : one, k < count ? count - k : -1);
                Due.same("sent " + k + " is older", one < later, true);
                later = k < count ? one : later;
            }
        }
        for (int count : new int[] {0, 1, 2, 15, 16, 17, 18}) {
            Due.same("there was a count of " + count, seen[count], true);
        }
    }

    /** sent: "-1 when k is not 0 .. 15", though more than 16 were out. */
    private static void sentOfNoSuchPlace() {
        for (int rounds : new int[] {0, 5, 40}) {
            CycleChip chip = counting(rounds);
            for (int k : new int[] {-2, -3, -16, 16, 17, 18, 32, Integer.MIN_VALUE, Integer.MAX_VALUE}) {
                Due.same("sent " + k + " after " + rounds, chip.sent(k), -1);
            }
        }
    }

    private static void receivedQueue() {
        CycleChip chip = Asm.chip(Asm.deviceBase(), Asm.loadDevice(1, 12), Asm.loadDevice(2, 12), Asm.loadDevice(3, 12),
            Asm.STAY);
        chip.plan(0, 0, 200);
        chip.plan(1, 0, 100);
        Due.same("none yet", chip.queued(false), 0);
        chip.run(1);
        Due.same("one", chip.queued(false), 1);
        Due.same("not in the other", chip.queued(true), 0);
        chip.run(1);
        Due.same("two", chip.queued(false), 2);
        chip.run(6);
        Due.same("two before the load is done", chip.queued(false), 2);
        chip.run(1);
        Due.same("the first is taken", chip.queued(false), 1);
        Due.same("the first", chip.register(1), 200);
        chip.run(10);
        Due.same("the second", chip.register(2), 100);
        Due.same("none", chip.register(3), -1);
        Due.same("empty", chip.queued(false), 0);
    }

    /** "or -1 when it is empty": at first, and twice, and a byte that comes then is found. */
    private static void receivedQueueIsEmpty() {
        CycleChip chip = Asm.chip(Asm.deviceBase(), Asm.loadDevice(1, 12), Asm.loadDevice(2, 12), Asm.loadDevice(3, 12),
            Asm.loadDevice(4, 12), Asm.loadDevice(5, 13), Asm.STAY);
        for (int k = 1; k < 6; k++) {
            chip.give(k, 99);
        }
        chip.plan(doneCycle(3), 0, 0);
        chip.run(60);
        Due.same("empty at first", chip.register(1), -1);
        Due.same("empty again", chip.register(2), -1);
        Due.same("a byte 0 is no empty queue", chip.register(3), 0);
        Due.same("empty after it", chip.register(4), -1);
        Due.same("state", chip.register(5), 0);
        Due.same("none waits", chip.queued(false), 0);
    }

    /** A chip that loads STATE, then DATA nine times into registers 1 .. 9; that many bytes come in cycle 0. */
    private static CycleChip receiver(int bytes) {
        CycleChip chip = Asm.chip(Asm.deviceBase(), Asm.loadDevice(10, 13));
        for (int k = 1; k <= 9; k++) {
            chip.poke(1 + k, Asm.loadDevice(k, 12));
        }
        Asm.put(chip, 11, Asm.loadDevice(11, 13), Asm.STAY);
        for (int k = 1; k <= bytes; k++) {
            chip.plan(0, 0, 100 + k);
        }
        return chip;
    }

    /** "when that has 8 bytes, the byte is lost and OVERRUN is set": not yet with the eighth. */
    private static void eighthByteIsKept() {
        CycleChip chip = receiver(8);
        chip.run(1);
        Due.same("eight", chip.queued(false), 8);
        chip.run(99);
        Due.same("state", chip.register(10), 1);
        for (int k = 1; k <= 8; k++) {
            Due.same("byte " + k, chip.register(k), 100 + k);
        }
        Due.same("no ninth", chip.register(9), -1);
        Due.same("state at last", chip.register(11), 0);
    }

    /** "when that has 8 bytes, the byte is lost and OVERRUN is set": the ninth, and the tenth. */
    private static void ninthByteIsLost() {
        for (int bytes = 9; bytes <= 10; bytes++) {
            CycleChip chip = receiver(bytes);
            chip.run(1);
            Due.same("eight of " + bytes, chip.queued(false), 8);
            chip.run(99);
            Due.same("state with OVERRUN", chip.register(10), 1 + 4);
            for (int k = 1; k <= 8; k++) {
                Due.same("byte " + k + " of " + bytes, chip.register(k), 100 + k);
            }
            Due.same("the ninth is lost", chip.register(9), -1);
            Due.same("OVERRUN stays when the queue is empty", chip.register(11), 4);
        }
    }

    /** "when that has 8 bytes, the byte is lost": EVENTS is before BUS, so that a load of that cycle comes too late. */
    private static void byteInTheCycleOfTheLoad() {
        for (int late = 0; late < 2; late++) {
            CycleChip chip = receiver(8);
            chip.plan(doneCycle(2) + late, 0, 55);
            chip.run(doneCycle(2) + 2);
            Due.same("waiting, " + late + " later", chip.queued(false), 7 + late);
            chip.run(99);
            Due.same("the ninth, " + late + " later", chip.register(9), late == 1 ? 55 : -1);
            Due.same("OVERRUN, " + late + " later", chip.register(11), late == 1 ? 0 : 4);
        }
    }

    /** "the first byte of the received queue": of sixty bytes, five at a time, none changes its place. */
    private static void queueGoesRound() {
        CycleChip chip = Asm.chip(Asm.deviceBase(), Asm.loadDevice(1, 12), Asm.branch(4, 1, 0, -4), Asm.mul(2, 2, 3),
            Asm.add(2, 2, 1), Asm.addi(4, 4, 1), Asm.jal(0, -20));
        chip.give(3, 31);
        int want = 0;
        for (int round = 0; round < 12; round++) {
            for (int k = 0; k < 5; k++) {
                int b = round * 20 + k;
                chip.plan(0, 0, b);
                want = want * 31 + b;
            }
            chip.run(200);
            Due.same("bytes read in round " + round, chip.register(4), 5 * round + 5);
            Due.same("their order in round " + round, chip.register(2), want);
            Due.same("none waits", chip.queued(false), 0);
        }
    }

    /** "+ 4 OVERRUN": loading STATE and DATA and storing elsewhere do not end it. */
    private static void overrunStays() {
        CycleChip chip = Asm.chip(Asm.deviceBase(), Asm.loadDevice(1, 13), Asm.loadDevice(2, 12), Asm.storeDevice(0, 12),
            Asm.storeDevice(0, 15), Asm.storeDevice(0, 14), Asm.loadDevice(3, 13), Asm.STAY);
        for (int k = 0; k < 9; k++) {
            chip.plan(0, 0, 10 + k);
        }
        chip.run(60);
        Due.same("state", chip.register(1), 1 + 4);
        Due.same("state later, the byte being out again", chip.register(3), 1 + 4);
    }

    /** "storing ends OVERRUN", whatever is stored, and nothing else; and it may come again. */
    private static void overrunEnds() {
        for (int v : new int[] {0, 4, -1, Integer.MIN_VALUE}) {
            CycleChip chip = Asm.chip(Asm.deviceBase(), Asm.loadDevice(1, 13), Asm.storeDevice(2, 13), Asm.loadDevice(3, 13),
                Asm.NOP, Asm.loadDevice(4, 13), Asm.STAY);
            chip.give(2, v);
            for (int k = 0; k < 9; k++) {
                chip.plan(k, 0, 10 + k);
            }
            chip.plan(doneCycle(3) + 1, 0, 77);
            chip.run(8);
            Due.same("eight", chip.queued(false), 8);
            chip.run(1);
            Due.same("eight still", chip.queued(false), 8);
            Due.same("state in BUS of that cycle", chip.register(1), 1 + 4);
            chip.run(60);
            Due.same("ended by " + v, chip.register(3), 1);
            Due.same("eight after it", chip.queued(false), 8);
            Due.same("once more", chip.register(4), 1 + 4);
        }
    }

    /** "13 STATE": 0 when there is nothing, "+ 8 when a byte is being sent", and no more when it is out. */
    private static void state() {
        CycleChip chip = Asm.chip(Asm.deviceBase(), Asm.loadDevice(1, 13), Asm.storeDevice(0, 12), Asm.loadDevice(2, 13),
            Asm.loadDevice(3, 13), Asm.loadDevice(4, 13), Asm.loadDevice(5, 13), Asm.STAY);
        chip.run(60);
        int begun = doneCycle(2) + 1;
        Due.same("nothing", chip.register(1), 0);
        Due.same("a byte is being sent", chip.register(2), 8);
        Due.same("out is it in", chip.sent(0), 256L * (begun + 10));
        Due.same("loaded two cycles before", doneCycle(4), begun + 8);
        Due.same("still sent", chip.register(3), 8);
        Due.same("loaded in the cycle in which it is out", doneCycle(5), begun + 10);
        Due.same("sent no more", chip.register(4), 0);
        Due.same("nor later", chip.register(5), 0);
    }

    /** "15 ENABLES (3 of it)". */
    private static void enablesAreKept() {
        for (int v : new int[] {0, 1, 2, 3, 4, 7, -1, -2, -4, Integer.MIN_VALUE}) {
            CycleChip chip = Asm.chip(Asm.deviceBase(), Asm.storeDevice(1, 15), Asm.loadDevice(2, 15), Asm.STAY);
            chip.give(1, v);
            chip.run(20);
            Due.same("ENABLES of " + v, chip.register(2), v & 3);
        }
    }
}
