import java.util.Random;

/** Random programs and calls (from fixed seeds), answered by the program and by Reference alike. */
public final class ReferenceTest {
    private static final int OBJECTS = 8000;
    private static final int CALLS = 512;
    private static final int CALLS_AT_LAST = 130;
    private static final int[] CONTROLS = {768, 772, 773, 832, 833, 834, 835, 836, 3072};

    private final Random random;
    private final CycleChip chip;
    private final Reference reference;
    private final String name;
    private int calls;

    private ReferenceTest(int seed) {
        random = new Random(seed);
        int latency = random.nextInt(8) == 0 ? random.nextInt(30) - 10 : 1 + random.nextInt(3);
        int lines = random.nextInt(8) == 0 ? random.nextInt(30) - 10 : 1 + random.nextInt(8);
        chip = new CycleChip(latency, lines);
        reference = new Reference(latency, lines);
        name = "seed " + seed + " (" + latency + ", " + lines + "): ";
    }

    public static void main(String[] args) {
        for (int seed = 0; seed < OBJECTS && Due.wrong() == 0; seed++) {
            ReferenceTest test = new ReferenceTest(seed);
            test.prepare();
            while (test.calls < CALLS - CALLS_AT_LAST && Due.wrong() == 0) {
                test.call();
                test.look();
            }
            test.lookAtAll();
        }
        Due.end();
    }

    /** Goes on behind the instruction that trapped, so that programs come far. */
    private static final int HANDLER = 112;
    private static final int[] HANDLER_WORDS = {
        Asm.csrrs(16, Asm.MEPC, 0), Asm.addi(16, 16, 4), Asm.i(19, 7, 16, 16, 508), Asm.csrrw(0, Asm.MEPC, 16),
        Asm.loadDevice(17, 6), Asm.storeDevice(17, 6), Asm.loadDevice(18, 0), Asm.addi(18, 18, 150),
        Asm.storeDevice(18, 2), Asm.MRET};

    private void prepare() {
        boolean wild = random.nextInt(10) == 0;
        boolean handled = random.nextInt(4) != 0;
        for (int p = 0; p < 128; p++) {
            poke(p, wild ? wildWord() : word());
        }
        int[] start = {
            Asm.deviceBase(),
            Asm.li(30, handled ? 4 * HANDLER : random.nextInt(4) == 0 ? random.nextInt(2048) : random.nextInt(512)),
            Asm.csrrw(0, Asm.MTVEC, 30), Asm.li(29, -1 - random.nextInt(2) * random.nextInt(2048)),
            Asm.csrrw(0, Asm.MIE, 29), Asm.storeDevice(29, 4), Asm.storeDevice(28, 8),
            Asm.csrrsi(0, Asm.MSTATUS, 8 * random.nextInt(2)), Asm.storeDevice(27, 2), Asm.storeDevice(0, 3)};
        if (!wild) {
            for (int k = 0; k < start.length; k++) {
                poke(k, start[k]);
            }
        }
        if (handled) {
            for (int k = 0; k < HANDLER_WORDS.length; k++) {
                poke(HANDLER + k, HANDLER_WORDS[k]);
            }
        }
        for (int k = 0; k < 32; k++) {
            give(k, value());
        }
        for (int k = 8; k < 16; k++) {
            give(k, random.nextInt(8));
        }
        give(27, 20 + random.nextInt(400));
        give(28, random.nextInt());
    }

    private int value() {
        switch (random.nextInt(6)) {
            case 0: return random.nextInt();
            case 1: return random.nextInt(8) - 4;
            case 2: return Integer.MIN_VALUE + random.nextInt(3) - 1;
            case 3: return 4096 + 4 * random.nextInt(16);
            default: return 4 * random.nextInt(128);
        }
    }

    private int wildWord() {
        int[] kinds = {55, 23, 111, 103, 99, 51, 19, 3, 35, 15, 115, 0};
        int w = random.nextInt();
        return random.nextInt(6) == 0 ? w : w & -128 | kinds[random.nextInt(kinds.length)];
    }

    private int low() {
        return random.nextInt(8);
    }

    private int device() {
        return random.nextInt(16);
    }

    private int word() {
        int d = low();
        int a = low();
        switch (random.nextInt(26)) {
            case 0: return Asm.lui(d, random.nextInt());
            case 1: return Asm.auipc(d, random.nextInt(8) * 4096);
            case 2: return Asm.jal(d, 4 * (random.nextInt(9) - 2));
            case 3: return random.nextInt(3) == 0 ? Asm.jalr(d, a, random.nextInt(64)) : Asm.jalr(d, 0, random.nextInt(512));
            case 4:
            case 5: return Asm.branch(random.nextInt(8), a, low(), 2 * (random.nextInt(20) - 4));
            case 6: return Asm.r(51, random.nextInt(8), random.nextInt(3) == 0 ? 32 : 0, d, a, low());
            case 7: return Asm.r(51, random.nextInt(8), 1, d, a, low());
            case 8:
            case 9: return Asm.i(19, random.nextInt(8), d, a, random.nextInt(3) == 0 ? random.nextInt() : random.nextInt(32));
            case 10: return Asm.r(19, 5, 32 * random.nextInt(2), d, a, random.nextInt(32));
            case 11:
            case 12: return Asm.lw(d, 4 * random.nextInt(128), 0);
            case 13: return Asm.lw(d, random.nextInt(3), a);
            case 14:
            case 15: return Asm.sw(a, 256 + 4 * random.nextInt(64), 0);
            case 16: return Asm.sw(a, random.nextInt(512) & (random.nextInt(4) == 0 ? -1 : -4), random.nextInt(3) * low());
            case 17:
            case 18: return Asm.loadDevice(d, device());
            case 19:
            case 20: return Asm.storeDevice(random.nextInt(16), device());
            case 21: return random.nextInt(2) == 0 ? Asm.FENCE : Asm.FENCE_I;
            case 22: return Asm.i(115, random.nextInt(8), d, a, CONTROLS[random.nextInt(9)] + random.nextInt(20) / 19);
            case 23: return Asm.loadDevice(d, 6);
            case 24: return Asm.storeDevice(random.nextInt(16), 6);
            default: return special();
        }
    }

    private int special() {
        switch (random.nextInt(6)) {
            case 0: return Asm.ECALL;
            case 1: return Asm.EBREAK;
            case 2: return Asm.WFI;
            case 3: return wildWord();
            default: return Asm.MRET;
        }
    }

    /** Each call of the chip is counted, since no promise holds after the 512th. */
    private void same(String what, long got, long want) {
        calls++;
        Due.same(name + "call " + calls + ", cycle " + reference.cycles() + ": " + what, got, want);
    }

    private void same(String what, boolean got, boolean want) {
        same(what, got ? 1 : 0, want ? 1 : 0);
    }

    private void poke(int p, int w) {
        same("poke", chip.poke(p, w), reference.poke(p, w));
    }

    private void give(int k, int v) {
        same("give", chip.give(k, v), reference.give(k, v));
    }

    private void call() {
        int kind = random.nextInt(12);
        if (kind == 0) {
            int p = random.nextInt(132) - 2;
            poke(p, p >= HANDLER && p < HANDLER + HANDLER_WORDS.length ? HANDLER_WORDS[p - HANDLER] : word());
        } else if (kind == 1) {
            int k = random.nextInt(18) - 1;
            give(k == 16 ? 32 : k, k < 8 ? value() : random.nextInt(8));
        } else if (kind <= 3) {
            int delay = random.nextInt(10) == 0 ? random.nextInt(2010) - 5 : random.nextInt(40);
            int what = random.nextInt(3) == 0 ? 0 : random.nextInt(10) - 1;
            int sent = random.nextInt(3) == 0 ? 0 : random.nextInt();
            same("plan", chip.plan(delay, what, sent), reference.plan(delay, what, sent));
        } else {
            int n = random.nextInt(10) == 0 ? random.nextInt(300) : random.nextInt(16) - 1;
            same("run " + n, chip.run(n), reference.run(n));
        }
    }

    /** Looks at one or two things, most often at those that change most often. */
    private void look() {
        for (int k = random.nextInt(2); k >= 0; k--) {
            int kind = random.nextInt(16);
            if (kind < 9) {
                lookAtCount(kind);
            } else if (kind < 12) {
                lookAtWord(random.nextInt(132) - 2);
            } else if (kind < 14) {
                lookAtRegister(random.nextInt(8));
            } else {
                lookAtControl(CONTROLS[random.nextInt(9)] + random.nextInt(9) / 8);
            }
        }
    }

    private void lookAtCount(int kind) {
        switch (kind) {
            case 0: same("pc", chip.pc(), reference.pc()); break;
            case 1: same("cycles", chip.cycles(), reference.cycles()); break;
            case 2: same("traps", chip.traps(), reference.traps()); break;
            case 3: same("planned", chip.planned(), reference.planned()); break;
            case 4: same("stores", chip.stores(), reference.stores()); break;
            case 5: same("bus", chip.bus(), reference.bus()); break;
            case 6: same("sources", chip.sources(), reference.sources()); break;
            case 7: same("sending", chip.queued(true), reference.queued(true)); break;
            default: same("received", chip.queued(false), reference.queued(false));
        }
    }

    private void lookAtWord(int p) {
        switch (random.nextInt(3)) {
            case 0: same("peek " + p, chip.peek(p), reference.peek(p)); break;
            case 1: same("held code " + p, chip.held(true, p), reference.held(true, p)); break;
            default: same("held data " + p, chip.held(false, p), reference.held(false, p));
        }
    }

    private void lookAtRegister(int k) {
        same("register " + k, chip.register(k), reference.register(k));
    }

    private void lookAtControl(int n) {
        same("control " + n, chip.control(n), reference.control(n));
    }

    /** With the calls that are left: everything but the words, and some of these. */
    private void lookAtAll() {
        for (int kind = 0; kind < 9; kind++) {
            lookAtCount(kind);
        }
        for (int n : CONTROLS) {
            lookAtControl(n);
        }
        for (int k = -1; k <= 32; k++) {
            lookAtRegister(k);
        }
        for (int k = -1; k <= 16; k++) {
            same("sent " + k, chip.sent(k), reference.sent(k));
            same("actCycle " + k, chip.actCycle(k), reference.actCycle(k));
            same("actAddress " + k, chip.actAddress(k), reference.actAddress(k));
        }
        while (calls < CALLS) {
            lookAtWord(random.nextInt(128));
        }
    }
}
