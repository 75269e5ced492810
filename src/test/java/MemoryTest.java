/** Promises 2, 3, 4: poke, peek, held. */
public final class MemoryTest {
    public static void main(String[] args) {
        pokeAndPeek();
        pokeStaysOutOfCaches();
        storeIsWrittenOverPoke();
        heldOfData();
        refillBringsWordsAsTheyAreThen();
        Due.end();
    }

    private static void pokeAndPeek() {
        CycleChip chip = new CycleChip(1, 8);
        for (int p = 0; p < 128; p++) {
            Due.same("first poke " + p, chip.poke(p, p - 1000), 0);
        }
        for (int p = 0; p < 128; p++) {
            Due.same("peek " + p, chip.peek(p), p - 1000);
            Due.same("second poke " + p, chip.poke(p, ~p), p - 1000);
            Due.same("peek again " + p, chip.peek(p), ~p);
        }
        for (int p : new int[] {-1, 128, 129, 512, Integer.MIN_VALUE, Integer.MAX_VALUE}) {
            Due.same("poke refused " + p, chip.poke(p, 7), 0);
            Due.same("poke refused again " + p, chip.poke(p, 7), 0);
            Due.same("peek refused " + p, chip.peek(p), 0);
            Due.same("held code refused " + p, chip.held(true, p), -1);
            Due.same("held data refused " + p, chip.held(false, p), -1);
        }
        for (int p = 0; p < 128; p++) {
            Due.same("peek at last " + p, chip.peek(p), ~p);
        }
    }

    private static void pokeStaysOutOfCaches() {
        CycleChip chip = Asm.chip(Asm.lw(1, 0, 0), Asm.STAY);
        chip.run(15);
        int word = Asm.lw(1, 0, 0);
        Due.same("code held", chip.held(true, 0), word);
        Due.same("data held", chip.held(false, 0), word);
        Due.same("poke", chip.poke(0, 5), word);
        Due.same("poke of the word that is done", chip.poke(1, 0), Asm.STAY);
        Due.same("code held after poke", chip.held(true, 0), word);
        Due.same("data held after poke", chip.held(false, 0), word);
        Due.same("the cached word is done", chip.run(4), 2);
        Due.same("no trap", chip.traps(), 0);
    }

    /** With L = 4 the store is put into the buffer in cycle 17, begun in 18 and done in 22. */
    private static void storeIsWrittenOverPoke() {
        CycleChip chip = new CycleChip(4, 8);
        Asm.put(chip, 0, Asm.sw(1, 256, 0), Asm.STAY);
        chip.give(1, 77);
        chip.run(18);
        Due.same("in the buffer", chip.stores(), 1);
        Due.same("not yet written", chip.poke(64, 5), 0);
        Due.same("poked", chip.peek(64), 5);
        Due.same("poke leaves the buffer alone", chip.stores(), 1);
        chip.run(4);
        Due.same("still poked", chip.peek(64), 5);
        chip.run(1);
        Due.same("written over", chip.peek(64), 77);
    }

    private static void heldOfData() {
        CycleChip chip = new CycleChip(1, 2);
        Asm.put(chip, 0, Asm.lw(1, 256, 0), Asm.lw(1, 288, 0), Asm.STAY);
        Asm.put(chip, 64, -1, Integer.MIN_VALUE, 2, Integer.MAX_VALUE);
        chip.run(10);
        Due.same("nothing of data yet", chip.held(false, 64), -1);
        chip.run(1);
        Due.same("held -1", chip.held(false, 64), 4294967295L);
        Due.same("held -2^31", chip.held(false, 65), 2147483648L);
        Due.same("held 2", chip.held(false, 66), 2);
        Due.same("held 2^31 - 1", chip.held(false, 67), 2147483647);
        Due.same("the block before", chip.held(false, 63), -1);
        Due.same("the block behind", chip.held(false, 68), -1);
        Due.same("same line, other block", chip.held(false, 72), -1);
        Due.same("not in the code cache", chip.held(true, 64), -1);
        Due.same("not in the data cache", chip.held(false, 0), -1);
        chip.run(10);
        Due.same("line taken over", chip.held(false, 64), -1);
        Due.same("by that block", chip.held(false, 72), 0);
    }

    /** The code is wanted in cycle 0, begun in 1 and done in 9; a word poked before that counts. */
    private static void refillBringsWordsAsTheyAreThen() {
        CycleChip chip = new CycleChip(2, 8);
        chip.run(9);
        chip.poke(0, Asm.li(1, 3));
        chip.poke(3, 12345);
        chip.run(1);
        Due.same("poked while the request was served", chip.held(true, 3), 12345);
        Due.same("and done", chip.register(1), 3);
    }
}
