/** Promises 2, 3, 4: poke, peek, held. */
public final class MemoryTest {
    private static final int[] NO_WORDS = {-1, -4, -128, 128, 129, 131, 132, 512, Integer.MIN_VALUE, Integer.MAX_VALUE};

    public static void main(String[] args) {
        pokeAndPeek();
        firstAndLastWord();
        pokeOfNoWord();
        peekOfNoWord();
        heldOfNoWord();
        pokeStaysOutOfCaches();
        pokeStaysOutOfTheBuffer();
        storeIsWrittenOverPoke();
        heldIsUnsigned();
        heldOrNot();
        refillBringsWordsAsTheyAreThen();
        Due.end();
    }

    private static void pokeAndPeek() {
        CycleChip chip = new CycleChip(1, 8);
        for (int p = 0; p < 128; p++) {
            Due.same("first poke " + p, chip.poke(p, p - 1000), 0);
        }
        for (int p = 0; p < 128; p++) {
            Due.same("second poke " + p, chip.poke(p, ~p), p - 1000);
        }
        for (int p = 0; p < 128; p++) {
            Due.same("peek " + p, chip.peek(p), ~p);
        }
    }

    /** "The MEMORY has the words 0 .. 127": both ends are words like the others, of every value. */
    private static void firstAndLastWord() {
        for (int p : new int[] {0, 127}) {
            CycleChip chip = new CycleChip(1, 8);
            int old = 0;
            for (int w : new int[] {1, -1, Integer.MIN_VALUE, Integer.MAX_VALUE, 0}) {
                Due.same("poke " + p, chip.poke(p, w), old);
                Due.same("peek " + p, chip.peek(p), w);
                old = w;
            }
        }
    }

    /** A chip without a word 0 in its memory, whose caches hold the first and the last block. */
    private static CycleChip full(int lines) {
        CycleChip chip = new CycleChip(1, lines);
        for (int p = 0; p < 128; p++) {
            chip.poke(p, 1000 + p);
        }
        Asm.put(chip, 0, Asm.lw(1, 4, 0), Asm.lw(2, 508, 0), Asm.jal(0, 500));
        chip.poke(127, Asm.STAY);
        chip.run(60);
        return chip;
    }

    /** poke: "0 when p is not 0 .. 127", and nothing changes. */
    private static void pokeOfNoWord() {
        CycleChip chip = full(8);
        for (int p : NO_WORDS) {
            Due.same("poke " + p, chip.poke(p, 7), 0);
            Due.same("poke again " + p, chip.poke(p, 8), 0);
        }
        for (int p = 3; p < 127; p++) {
            Due.same("peek after refused pokes " + p, chip.peek(p), 1000 + p);
        }
        Due.same("first word after refused pokes", chip.peek(0), Asm.lw(1, 4, 0));
        Due.same("last word after refused pokes", chip.peek(127), Asm.STAY);
    }

    /** peek: "0 when p is not 0 .. 127", though words are not 0. */
    private static void peekOfNoWord() {
        CycleChip chip = full(8);
        for (int p : NO_WORDS) {
            Due.same("peek " + p, chip.peek(p), 0);
        }
    }

    /** held: "-1 when ... p is not 0 .. 127", though the line where such a block would be holds one. */
    private static void heldOfNoWord() {
        for (int lines = 1; lines <= 8; lines++) {
            CycleChip chip = full(lines);
            Due.same("the last block in the code cache", chip.held(true, 127), Asm.STAY);
            Due.same("the last block in the data cache", chip.held(false, 127), Asm.STAY);
            for (int p : NO_WORDS) {
                Due.same("held code " + p + " of " + lines, chip.held(true, p), -1);
                Due.same("held data " + p + " of " + lines, chip.held(false, p), -1);
            }
        }
    }

    /** "(in no cache ...)": both caches hold the word that is poked. */
    private static void pokeStaysOutOfCaches() {
        CycleChip chip = Asm.chip(Asm.lw(1, 0, 0), Asm.STAY);
        chip.run(15);
        int word = Asm.lw(1, 0, 0);
        Due.same("code held", chip.held(true, 0), word);
        Due.same("data held", chip.held(false, 0), word);
        Due.same("poke", chip.poke(0, 5), word);
        Due.same("poke of the word that is done", chip.poke(1, 0), Asm.STAY);
        Due.same("code held after poke", chip.held(true, 0), word);
        Due.same("data held after poke", chip.held(false, 0), word);
        Due.same("the cached word is done", chip.run(4), 2);
        Due.same("no trap", chip.traps(), 0);
    }

    /** "(... not in the buffer)": with L = 8 two stores are in the buffer, and the word of the first is poked. */
    private static void pokeStaysOutOfTheBuffer() {
        CycleChip chip = new CycleChip(8, 8);
        Asm.put(chip, 0, Asm.sw(1, 256, 0), Asm.sw(2, 260, 0), Asm.STAY);
        chip.give(1, 77);
        chip.give(2, 88);
        chip.run(35);
        Due.same("two stores", chip.stores(), 2);
        Due.same("poke of the first's word", chip.poke(64, 5), 0);
        Due.same("poke of the second's word", chip.poke(65, 6), 0);
        Due.same("two stores still", chip.stores(), 2);
        chip.run(8);
        Due.same("the first is written", chip.peek(64), 77);
        Due.same("the second's word is as poked", chip.peek(65), 6);
        chip.run(8);
        Due.same("the second is written", chip.peek(65), 88);
    }

    /**
     * "(a store of that word that is in the buffer is written over it later;)": with L = 4 the store is put into the
     * buffer in cycle 17, begun in 18 and done in 22.
     */
    private static void storeIsWrittenOverPoke() {
        CycleChip chip = new CycleChip(4, 8);
        Asm.put(chip, 0, Asm.sw(1, 256, 0), Asm.STAY);
        chip.give(1, 77);
        chip.run(18);
        Due.same("in the buffer", chip.stores(), 1);
        Due.same("not yet written", chip.poke(64, 5), 0);
        Due.same("poked", chip.peek(64), 5);
        chip.run(4);
        Due.same("still poked", chip.peek(64), 5);
        chip.run(1);
        Due.same("written over", chip.peek(64), 77);
        Due.same("and poked again", chip.poke(64, 6), 77);
        chip.run(20);
        Due.same("written but once", chip.peek(64), 6);
    }

    /** held: "as a number 0 .. 2^32 - 1". */
    private static void heldIsUnsigned() {
        CycleChip chip = Asm.chip(Asm.lw(1, 256, 0), Asm.STAY);
        Asm.put(chip, 64, -1, Integer.MIN_VALUE, 0, Integer.MAX_VALUE);
        chip.run(20);
        Due.same("held -1", chip.held(false, 64), 4294967295L);
        Due.same("held -2^31", chip.held(false, 65), 2147483648L);
        Due.same("held 0", chip.held(false, 66), 0);
        Due.same("held 2^31 - 1", chip.held(false, 67), 2147483647);
        CycleChip code = Asm.chip(Asm.STAY, -1, Integer.MIN_VALUE, 0);
        code.run(6);
        Due.same("held code -1", code.held(true, 1), 4294967295L);
        Due.same("held code -2^31", code.held(true, 2), 2147483648L);
        Due.same("held code 0", code.held(true, 3), 0);
    }

    /** held: "-1 when it does not hold it": before its block has come, beside it, and when another has its line. */
    private static void heldOrNot() {
        CycleChip chip = new CycleChip(1, 2);
        Asm.put(chip, 0, Asm.lw(1, 256, 0), Asm.lw(1, 288, 0), Asm.STAY);
        Asm.put(chip, 64, 640, 650, 660, 670);
        chip.run(10);
        Due.same("nothing of data yet", chip.held(false, 64), -1);
        chip.run(1);
        Due.same("the first word of the block", chip.held(false, 64), 640);
        Due.same("the last word of the block", chip.held(false, 67), 670);
        Due.same("the block before", chip.held(false, 63), -1);
        Due.same("the block behind", chip.held(false, 68), -1);
        Due.same("same line, other block", chip.held(false, 72), -1);
        Due.same("not in the code cache", chip.held(true, 64), -1);
        Due.same("not in the data cache", chip.held(false, 0), -1);
        chip.run(10);
        Due.same("line taken over", chip.held(false, 64), -1);
        Due.same("by that block", chip.held(false, 72), 0);
    }

    /**
     * "with the four words as they are in memory then": the code is wanted in cycle 0, begun in 1 and done in 9; a word
     * poked before that counts.
     */
    private static void refillBringsWordsAsTheyAreThen() {
        CycleChip chip = new CycleChip(2, 8);
        chip.run(9);
        chip.poke(0, Asm.li(1, 3));
        chip.poke(3, 12345);
        chip.run(1);
        Due.same("poked while the request was served", chip.held(true, 3), 12345);
        Due.same("and done", chip.register(1), 3);
    }
}
