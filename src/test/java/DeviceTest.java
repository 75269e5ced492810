/** The timer's registers, seen through loads and stores. */
public final class DeviceTest {
    public static void main(String[] args) {
        timeIsLoaded();
        timeIsStored();
        timeWraps();
        compareIsUnsigned();
        compareIsKept();
        Due.end();
    }

    private static void timeIsLoaded() {
        CycleChip chip = Asm.chip(Asm.deviceBase(), Asm.loadDevice(1, 0), Asm.loadDevice(2, 1), Asm.STAY);
        chip.run(40);
        Due.same("low word in cycle 8", chip.register(1), 8);
        Due.same("high word", chip.register(2), 0);
    }

    /** The stores are done in 8 and 10; the loads in 18 and 20. */
    private static void timeIsStored() {
        CycleChip chip = Asm.chip(Asm.deviceBase(), Asm.storeDevice(1, 0), Asm.storeDevice(2, 1), Asm.NOP,
            Asm.loadDevice(3, 0), Asm.loadDevice(4, 1), Asm.STAY);
        chip.give(1, -1);
        chip.give(2, 77);
        chip.run(40);
        Due.same("low word", chip.register(3), 9);
        Due.same("high word: the carry came before it was stored", chip.register(4), 77);
        Due.same("cycles are counted apart", chip.cycles(), 40);
        Due.same("CYCLE too", chip.control(Asm.CYCLE), 40);
        chip = Asm.chip(Asm.deviceBase(), Asm.storeDevice(2, 1), Asm.storeDevice(1, 0), Asm.NOP,
            Asm.loadDevice(3, 0), Asm.loadDevice(4, 1), Asm.STAY);
        chip.give(1, -5);
        chip.give(2, 77);
        chip.run(40);
        Due.same("low word", chip.register(3), 3);
        Due.same("high word with the carry", chip.register(4), 78);
    }

    /** TIME is all ones in the cycle in which its low word is stored, and 0 after it. */
    private static void timeWraps() {
        CycleChip chip = Asm.chip(Asm.deviceBase(), Asm.storeDevice(1, 1), Asm.storeDevice(1, 0), Asm.csrrs(3, Asm.MIP, 0),
            Asm.loadDevice(4, 1), Asm.STAY);
        chip.give(1, -1);
        chip.run(10);
        Due.same("not yet", chip.control(Asm.MIP), 0);
        chip.run(1);
        Due.same("within the cycle", chip.register(3), 128);
        Due.same("after it", chip.control(Asm.MIP), 0);
        chip.run(30);
        Due.same("high word", chip.register(4), 0);
    }

    private static void compareIsUnsigned() {
        int[][] cases = {{0, 5, 128}, {0, 500, 0}, {-1, 5, 0}, {1, 0, 0}, {Integer.MIN_VALUE, 0, 0}, {0, -1, 0}};
        for (int[] c : cases) {
            CycleChip chip = Asm.chip(Asm.deviceBase(), Asm.storeDevice(1, 3), Asm.storeDevice(2, 2), Asm.STAY);
            chip.give(1, c[0]);
            chip.give(2, c[1]);
            chip.run(60);
            Due.same("COMPARE " + c[0] + " " + c[1], chip.control(Asm.MIP), c[2]);
        }
        CycleChip chip = Asm.chip(Asm.deviceBase(), Asm.storeDevice(1, 1), Asm.storeDevice(0, 3), Asm.STAY);
        chip.give(1, -1);
        chip.run(60);
        Due.same("TIME with its highest bit", chip.control(Asm.MIP), 128);
    }

    private static void compareIsKept() {
        CycleChip chip = Asm.chip(Asm.deviceBase(), Asm.storeDevice(1, 2), Asm.storeDevice(2, 3), Asm.loadDevice(3, 2),
            Asm.loadDevice(4, 3), Asm.STAY);
        chip.give(1, -17);
        chip.give(2, 0x12345678);
        chip.run(60);
        Due.same("low word", chip.register(3), -17);
        Due.same("high word", chip.register(4), 0x12345678);
    }
}
