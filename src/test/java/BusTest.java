/** Promises 18 and 19: stores and bus, and the cycles that requests take. */
public final class BusTest {
    public static void main(String[] args) {
        codeRequest();
        storeRequest();
        dataRequest();
        deviceRequest();
        bufferOfTwo();
        coreBeforeTheBuffer();
        loadHoldsForTheBuffer();
        cachedLoadPassesTheBuffer();
        deviceHoldsForTheBuffer();
        fences();
        allHoldForTwoStores();
        holdingStoreChangesNothing();
        olderStoresFirst();
        staleCode();
        codeWithoutTheStoreThatWaits();
        Due.end();
    }

    private static void busIs(CycleChip chip, int cycles, int request, String what) {
        for (int k = 0; k < cycles; k++) {
            chip.run(1);
            Due.same(what + ", cycle " + (chip.cycles() - 1), chip.bus(), request);
        }
    }

    /** "0 none, 1 CODE". */
    private static void codeRequest() {
        CycleChip chip = new CycleChip(2, 8);
        chip.poke(0, Asm.STAY);
        Due.same("at first", chip.bus(), 0);
        busIs(chip, 1, 0, "wanted");
        busIs(chip, 8, 1, "code");
        busIs(chip, 20, 0, "there");
    }

    /** "the buffer wants a STORE whenever it is not empty", and no more then; "STORE (L cycles)". */
    private static void storeRequest() {
        CycleChip chip = new CycleChip(3, 8);
        Asm.put(chip, 0, Asm.sw(1, 508, 0), Asm.STAY);
        chip.give(1, 42);
        busIs(chip, 1, 0, "wanted");
        busIs(chip, 12, 1, "code");
        Due.same("none", chip.stores(), 0);
        busIs(chip, 1, 0, "put into the buffer");
        Due.same("one", chip.stores(), 1);
        busIs(chip, 3, 4, "store");
        Due.same("one until it is done", chip.stores(), 1);
        Due.same("not written", chip.peek(127), 0);
        busIs(chip, 1, 0, "done");
        Due.same("none any more", chip.stores(), 0);
        Due.same("written", chip.peek(127), 42);
    }

    /** "2 DATA". */
    private static void dataRequest() {
        CycleChip chip = new CycleChip(3, 8);
        Asm.put(chip, 0, Asm.lw(1, 508, 0), Asm.STAY);
        chip.poke(127, 43);
        chip.run(13);
        busIs(chip, 1, 0, "data wanted");
        busIs(chip, 12, 2, "data");
        Due.same("not loaded", chip.register(1), 0);
        busIs(chip, 1, 0, "data there");
        Due.same("loaded", chip.register(1), 43);
        Due.same("in cycle", chip.actCycle(0), 26);
    }

    /** "3 DEVICE". */
    private static void deviceRequest() {
        CycleChip chip = new CycleChip(8, 8);
        Asm.put(chip, 0, Asm.deviceBase(), Asm.loadDevice(1, 14), Asm.STAY);
        chip.run(34);
        busIs(chip, 1, 0, "device wanted");
        busIs(chip, 1, 3, "device");
        Due.same("not loaded", chip.register(1), 0);
        busIs(chip, 1, 0, "device done");
        Due.same("loaded", chip.register(1), 1);
        Due.same("in cycle", chip.actCycle(1), 36);
    }

    /**
     * "if the buffer has two entries, it holds": the first store is in the buffer in 17, begun in 18 and done in 22; the
     * second acts in 18; the third holds until 22.
     */
    private static void bufferOfTwo() {
        CycleChip chip = new CycleChip(4, 8);
        Asm.put(chip, 0, Asm.sw(1, 256, 0), Asm.sw(2, 260, 0), Asm.sw(3, 264, 0), Asm.STAY);
        for (int k = 1; k < 4; k++) {
            chip.give(k, k);
        }
        chip.run(18);
        Due.same("one", chip.stores(), 1);
        chip.run(1);
        Due.same("two", chip.stores(), 2);
        Due.same("three cycles of holding", chip.run(3), 0);
        Due.same("two still", chip.stores(), 2);
        Due.same("the third", chip.run(1), 1);
        Due.same("two again", chip.stores(), 2);
        Due.same("pc", chip.pc(), 12);
        Due.same("its cycle", chip.actCycle(0), 22);
        busIs(chip, 3, 4, "second store");
        Due.same("first written", chip.peek(64), 1);
        Due.same("second not", chip.peek(65), 0);
        busIs(chip, 4, 4, "third store");
        Due.same("one left", chip.stores(), 1);
        busIs(chip, 1, 0, "all done");
        Due.same("second written", chip.peek(65), 2);
        Due.same("third written", chip.peek(66), 3);
        Due.same("none left", chip.stores(), 0);
    }

    /**
     * "If both want, the core's is begun when the request begun before this one was the buffer's": the stores act in 11
     * and 12; the first is served in 12 and 13, when the core wants block 1.
     */
    private static void coreBeforeTheBuffer() {
        CycleChip chip = new CycleChip(2, 8);
        Asm.put(chip, 0, Asm.NOP, Asm.NOP, Asm.sw(1, 256, 0), Asm.sw(1, 260, 0), Asm.STAY);
        chip.give(1, 5);
        chip.run(12);
        busIs(chip, 2, 4, "first store");
        busIs(chip, 8, 1, "code, though a store is wanted");
        Due.same("one store waits", chip.stores(), 1);
        busIs(chip, 2, 4, "second store");
        Due.same("acted when the code was there", chip.actCycle(0), 22);
        busIs(chip, 3, 0, "nothing");
        Due.same("written", chip.peek(65), 5);
    }

    /**
     * "else if the buffer is not empty, it holds": the store acts in 5 and is done in 7; only then is DATA wanted, begun
     * in 8 and done in 12.
     */
    private static void loadHoldsForTheBuffer() {
        CycleChip chip = Asm.chip(Asm.sw(1, 256, 0), Asm.lw(2, 256, 0), Asm.STAY);
        chip.give(1, 9);
        chip.run(6);
        busIs(chip, 1, 4, "store");
        busIs(chip, 1, 0, "store done, data wanted");
        busIs(chip, 4, 2, "data");
        Due.same("not loaded", chip.register(2), 0);
        chip.run(1);
        Due.same("loaded", chip.register(2), 9);
        Due.same("in cycle", chip.actCycle(0), 12);
    }

    /** "if the data cache holds the word, it changes there", and is loaded from there, whatever the buffer has. */
    private static void cachedLoadPassesTheBuffer() {
        CycleChip chip = new CycleChip(8, 8);
        Asm.put(chip, 0, Asm.lw(1, 256, 0), Asm.sw(2, 260, 0), Asm.lw(3, 260, 0), Asm.STAY);
        chip.give(2, 6);
        chip.run(66);
        Due.same("nothing loaded", chip.actCycle(0), -1);
        chip.run(2);
        Due.same("load and store acted", chip.actCycle(0), 67);
        Due.same("changed in the cache", chip.held(false, 65), 6);
        Due.same("neighbour", chip.held(false, 64), 0);
        Due.same("not in the memory", chip.peek(65), 0);
        Due.same("loaded at once", chip.run(1), 1);
        Due.same("loaded", chip.register(3), 6);
        Due.same("still in the buffer", chip.stores(), 1);
        Due.same("a store fills no line", chip.held(true, 64), -1);
        CycleChip other = Asm.chip(Asm.sw(2, 256, 0), Asm.STAY);
        other.run(30);
        Due.same("a store alone fills no line", other.held(false, 64), -1);
    }

    /** "A device register: if the buffer is not empty, it holds": the store is done in 23, when DEVICE is wanted. */
    private static void deviceHoldsForTheBuffer() {
        for (int word : new int[] {Asm.loadDevice(2, 0), Asm.storeDevice(2, 14)}) {
            CycleChip chip = new CycleChip(4, 8);
            Asm.put(chip, 0, Asm.deviceBase(), Asm.sw(1, 256, 0), word, Asm.STAY);
            chip.run(19);
            busIs(chip, 4, 4, "store");
            busIs(chip, 1, 0, "device wanted");
            busIs(chip, 1, 3, "device");
            busIs(chip, 1, 0, "device done");
            Due.same("cycle of the device", chip.actCycle(1), 25);
            Due.same("address of the device", chip.actAddress(1), 8);
        }
    }

    /**
     * "if the buffer is not empty, it holds; else it acts; with f = 1 no line of the code cache holds a block any
     * more".
     */
    private static void fences() {
        for (int fence : new int[] {Asm.FENCE, Asm.FENCE_I, Asm.FENCE | 0x0FF00000, Asm.FENCE_I | 31 << 7 | 31 << 15}) {
            CycleChip chip = new CycleChip(4, 8);
            Asm.put(chip, 0, Asm.lw(1, 0, 0), Asm.sw(1, 256, 0), fence, Asm.STAY);
            chip.run(36);
            Due.same("load and store", chip.actAddress(0), 4);
            Due.same("holds", chip.run(4), 0);
            Due.same("code held", chip.held(true, 0), Asm.lw(1, 0, 0));
            Due.same("acts when the buffer is empty", chip.run(1), 1);
            boolean all = (fence >> 12 & 7) == 1;
            Due.same("code held", chip.held(true, 0), all ? -1 : Asm.lw(1, 0, 0));
            Due.same("data held", chip.held(false, 0), Asm.lw(1, 0, 0));
            Due.same("cycle", chip.actCycle(0), 40);
            Due.same("no rest", chip.run(1), all ? 0 : 1);
        }
        for (int f = 2; f < 8; f++) {
            CycleChip chip = Asm.chip(Asm.FENCE | f << 12);
            chip.run(6);
            Due.same("no such fence", chip.control(Asm.MCAUSE), 2);
        }
    }

    /** "if the buffer is not empty, it holds": with L = 2 the stores act in 9 and 10 and are done in 12 and 14. */
    private static void allHoldForTwoStores() {
        int[][] cases = {{Asm.lw(2, 256, 0), 0, 2}, {Asm.lw(2, 0, 31), 0, 3}, {Asm.sw(2, 4, 31), 0, 3}, {Asm.FENCE, 1, 0},
            {Asm.FENCE_I, 1, 0}};
        for (int[] c : cases) {
            CycleChip chip = new CycleChip(2, 8);
            chip.give(31, 4096);
            Asm.put(chip, 0, Asm.sw(1, 256, 0), Asm.sw(1, 260, 0), c[0], Asm.WFI);
            chip.run(11);
            Due.same("two stores before " + c[0], chip.stores(), 2);
            busIs(chip, 3, 4, "stores before " + c[0]);
            Due.same("one store is left before " + c[0], chip.stores(), 1);
            Due.same("held until now " + c[0], chip.actAddress(0), 4);
            Due.same("held code " + c[0], chip.held(true, 0), Asm.sw(1, 256, 0));
            Due.same("acts in 14 or not: " + c[0], chip.run(1), c[1]);
            Due.same("no store is left", chip.stores(), 0);
            if (c[2] != 0) {
                busIs(chip, 1, c[2], "wanted in 14: " + c[0]);
            }
        }
    }

    /** "it holds (nothing changes ...)": a store that holds is not seen in the data cache until it acts. */
    private static void holdingStoreChangesNothing() {
        CycleChip chip = new CycleChip(4, 8);
        Asm.put(chip, 0, Asm.lw(1, 256, 0), Asm.sw(2, 260, 0), Asm.sw(3, 264, 0), Asm.sw(4, 268, 0), Asm.STAY);
        for (int k = 1; k < 5; k++) {
            chip.give(k, 10 * k);
        }
        chip.run(37);
        Due.same("load and both stores", chip.actAddress(0), 8);
        Due.same("two stores", chip.stores(), 2);
        for (int k = 0; k < 3; k++) {
            Due.same("it holds", chip.run(1), 0);
            Due.same("pc stays", chip.pc(), 12);
            Due.same("cache of the second", chip.held(false, 66), 30);
            Due.same("cache of the third", chip.held(false, 67), 0);
        }
        Due.same("it acts", chip.run(1), 1);
        Due.same("cache of the third", chip.held(false, 67), 40);
        Due.same("memory of the first", chip.peek(65), 20);
        Due.same("memory of the third", chip.peek(67), 0);
    }

    private static void olderStoresFirst() {
        CycleChip chip = new CycleChip(4, 8);
        Asm.put(chip, 0, Asm.sw(1, 256, 0), Asm.sw(2, 256, 0), Asm.STAY);
        chip.give(1, 1);
        chip.give(2, 2);
        chip.run(23);
        Due.same("the older", chip.peek(64), 1);
        chip.run(4);
        Due.same("then the newer", chip.peek(64), 2);
    }

    /** A store reaches the memory, but not the code cache, until a fence empties that. */
    private static void staleCode() {
        CycleChip chip = Asm.chip(Asm.sw(1, 8, 0), Asm.FENCE, Asm.li(2, 1), Asm.FENCE_I, Asm.jal(0, -8));
        chip.give(1, Asm.li(2, 7));
        chip.run(10);
        Due.same("written", chip.peek(2), Asm.li(2, 7));
        Due.same("the old word was done", chip.register(2), 1);
        chip.run(30);
        Due.same("the new word was done", chip.register(2), 7);
    }

    /** "as they are in memory then": CODE is served before the second store, which is to change a word of that block. */
    private static void codeWithoutTheStoreThatWaits() {
        CycleChip chip = new CycleChip(2, 8);
        Asm.put(chip, 0, Asm.NOP, Asm.NOP, Asm.sw(1, 256, 0), Asm.sw(2, 20, 0), Asm.NOP, Asm.li(3, 1), Asm.STAY);
        chip.give(2, Asm.li(3, 7));
        chip.run(60);
        Due.same("the memory has the new word", chip.peek(5), Asm.li(3, 7));
        Due.same("the code cache has the old one", chip.held(true, 5), Asm.li(3, 1));
        Due.same("which was done", chip.register(3), 1);
    }
}
