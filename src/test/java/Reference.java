import java.math.BigInteger;
import java.util.ArrayDeque;
import java.util.ArrayList;
import java.util.Deque;
import java.util.HashMap;
import java.util.Iterator;
import java.util.List;
import java.util.Map;
import java.util.TreeMap;

/** The document's words once more, in another form than the program's, for comparing the two. */
final class Reference {
    private static final BigInteger TWO_32 = BigInteger.ONE.shiftLeft(32);
    private static final Map<Integer, Integer> KEPT = Map.of(
        768, 136, 772, 2176, 773, -3, 832, -1, 833, -4, 834, -1, 835, -1, 836, 0);

    record Block(int number, int[] words) {
    }

    record Event(long cycle, int what, int value) {
    }

    record Request(int kind, int block, Runnable whenDone) {
    }

    record Pair(long cycle, int value) {
    }

    private final int latency;
    private final int lines;
    private final int[] memory = new int[128];
    private final int[] x = new int[32];
    private final Map<Integer, Block> codeLines = new HashMap<>();
    private final Map<Integer, Block> dataLines = new HashMap<>();
    private final Deque<int[]> buffer = new ArrayDeque<>();
    private final List<Event> events = new ArrayList<>();
    private final List<Pair> acts = new ArrayList<>();
    private final List<Pair> out = new ArrayList<>();
    private final Deque<Integer> received = new ArrayDeque<>();
    private final Deque<Integer> sending = new ArrayDeque<>();
    private final Map<Integer, Integer> csr = new TreeMap<>();
    private final boolean[] line = new boolean[8];
    private final boolean[] pending = new boolean[8];
    private final boolean[] service = new boolean[8];
    private int pc;
    private long cycle;
    private long time;
    private long compare = -1;
    private int enable;
    private int threshold;
    private int priorities;
    private int divisor = 1;
    private int enables;
    private boolean overrun;
    private Pair onTheWay;
    private Request wanted;
    private Request served;
    private long servedDone;
    private Request begunBefore;
    private boolean waits;
    private boolean asleep;
    private long restsUntil = -1;
    private int traps;

    Reference(int latency, int lines) {
        this.latency = latency < 1 ? 1 : latency > 8 ? 8 : latency;
        this.lines = lines < 1 ? 1 : lines > 8 ? 8 : lines;
        for (int n : KEPT.keySet()) {
            csr.put(n, 0);
        }
    }

    int poke(int p, int w) {
        if (p < 0 || p > 127) {
            return 0;
        }
        int old = memory[p];
        memory[p] = w;
        return old;
    }

    int peek(int p) {
        return p < 0 || p > 127 ? 0 : memory[p];
    }

    long held(boolean code, int p) {
        Integer w = p < 0 || p > 127 ? null : cached(code ? codeLines : dataLines, p);
        return w == null ? -1 : Integer.toUnsignedLong(w);
    }

    boolean give(int k, int v) {
        if (k < 0 || k > 31) {
            return false;
        }
        set(k, v);
        return true;
    }

    int register(int k) {
        return k < 0 || k > 31 ? 0 : x[k];
    }

    int pc() {
        return pc;
    }

    int control(int n) {
        return n == 3072 ? (int) cycle : n == 836 ? mip() : csr.getOrDefault(n, 0);
    }

    boolean plan(int delay, int what, int value) {
        if (delay < 0 || delay > 2000 || what < 0 || what == 1 || what > 7 || events.size() == 16) {
            return false;
        }
        events.add(new Event(cycle + delay, what, value));
        return true;
    }

    int planned() {
        return events.size();
    }

    int run(int n) {
        if (n < 0 || n > 1000) {
            return -1;
        }
        int before = acts.size();
        for (int k = 0; k < n; k++) {
            eventsPart();
            senderPart();
            linesPart();
            busPart();
            corePart();
            time++;
            cycle++;
        }
        return acts.size() - before;
    }

    int cycles() {
        return (int) cycle;
    }

    int traps() {
        return traps;
    }

    int actCycle(int k) {
        return k < 0 || k > 15 || k >= acts.size() ? -1 : (int) acts.get(acts.size() - 1 - k).cycle();
    }

    int actAddress(int k) {
        return k < 0 || k > 15 || k >= acts.size() ? -1 : acts.get(acts.size() - 1 - k).value();
    }

    long sent(int k) {
        if (k == -1) {
            return out.size();
        }
        if (k < 0 || k > 15 || k >= out.size()) {
            return -1;
        }
        Pair p = out.get(out.size() - 1 - k);
        return p.value() + 256 * p.cycle();
    }

    int queued(boolean sendingOne) {
        return (sendingOne ? sending : received).size();
    }

    int stores() {
        return buffer.size();
    }

    int bus() {
        return served == null ? 0 : served.kind();
    }

    int sources() {
        int answer = 0;
        for (int s = 1; s < 8; s++) {
            answer += (pending[s] ? 1 << s : 0) + (service[s] ? 256 << s : 0);
        }
        return answer;
    }

    private void eventsPart() {
        for (Iterator<Event> it = events.iterator(); it.hasNext();) {
            Event e = it.next();
            if (e.cycle() != cycle) {
                continue;
            }
            it.remove();
            if (e.what() != 0) {
                line[e.what()] = e.value() != 0;
            } else if (received.size() == 8) {
                overrun = true;
            } else {
                received.addLast(e.value() & 255);
            }
        }
    }

    private void senderPart() {
        if (onTheWay != null && onTheWay.cycle() == cycle) {
            out.add(onTheWay);
            onTheWay = null;
        }
        if (onTheWay == null && !sending.isEmpty()) {
            onTheWay = new Pair(cycle + 10L * divisor, sending.removeFirst());
        }
    }

    private void linesPart() {
        line[1] = received.size() > 0 && enables % 2 == 1 || sending.size() == 0 && enables >= 2;
        for (int s = 1; s < 8; s++) {
            if (line[s] && !service[s]) {
                pending[s] = true;
            }
        }
    }

    private void busPart() {
        if (served != null && servedDone == cycle) {
            Request r = served;
            served = null;
            r.whenDone().run();
            if (r.kind() != 4) {
                waits = false;
            }
        }
        if (served != null) {
            return;
        }
        Request store = buffer.isEmpty() ? null : new Request(4, 0, () -> {
            int[] oldest = buffer.removeFirst();
            memory[oldest[0]] = oldest[1];
        });
        boolean coreFirst = begunBefore == null || begunBefore.kind() == 4;
        Request next = wanted == null ? store : store == null || coreFirst ? wanted : store;
        if (next == null) {
            return;
        }
        if (next == wanted) {
            wanted = null;
        }
        begunBefore = next;
        served = next;
        servedDone = cycle + (next.kind() == 4 ? latency : next.kind() == 3 ? 1 : 4 * latency);
    }

    private void want(int kind, int block, Runnable whenDone) {
        wanted = new Request(kind, block, whenDone);
        waits = true;
    }

    private void wantBlock(int kind, Map<Integer, Block> cache, int p) {
        int b = p / 4;
        want(kind, b, () -> {
            int[] words = {memory[4 * b], memory[4 * b + 1], memory[4 * b + 2], memory[4 * b + 3]};
            cache.put(b % lines, new Block(b, words));
        });
    }

    private Integer cached(Map<Integer, Block> cache, int p) {
        Block b = cache.get(p / 4 % lines);
        return b == null || b.number() != p / 4 ? null : Integer.valueOf(b.words()[p % 4]);
    }

    private void corePart() {
        if (waits || cycle <= restsUntil) {
            return;
        }
        int due = mip() & csr.get(772);
        if (asleep && due == 0) {
            return;
        }
        asleep = false;
        if (csr.get(768) / 8 % 2 == 1 && due != 0) {
            trap(due >= 2048 ? 11 : 7, 0, true);
        } else if (pc < 0 || pc > 508 || pc % 4 != 0) {
            trap(1, pc, false);
        } else if (cached(codeLines, pc / 4) == null) {
            wantBlock(1, codeLines, pc / 4);
        } else {
            instruction(cached(codeLines, pc / 4));
        }
    }

    private int mip() {
        int bits = Long.compareUnsigned(time, compare) < 0 ? 0 : 128;
        for (int s = 1; s < 8; s++) {
            if (raised(s)) {
                return bits + 2048;
            }
        }
        return bits;
    }

    private boolean raised(int s) {
        return pending[s] && (enable >> s & 1) == 1 && priority(s) > threshold;
    }

    private int priority(int s) {
        return priorities >> 4 * s & 7;
    }

    private void trap(int n, int v, boolean interrupt) {
        traps++;
        int vector = csr.get(773);
        int status = csr.get(768);
        csr.put(833, pc);
        csr.put(834, interrupt ? (int) (n - (1L << 31)) : n);
        csr.put(835, v);
        csr.put(768, (status & 8) == 8 ? 128 : 0);
        pc = vector & -4;
        if (interrupt && vector % 2 != 0) {
            pc += 4 * n;
        }
        restsUntil = cycle + 1;
    }

    private void set(int k, int v) {
        x[k] = v;
        x[0] = 0;
    }

    private void act(int next) {
        acts.add(new Pair(cycle, pc));
        pc = next;
    }

    private void result(int w, int v) {
        set(w >> 7 & 31, v);
        act(pc + 4);
    }

    private void jump(int d, int t) {
        if ((t >> 1 & 1) == 1) {
            trap(0, t, false);
            return;
        }
        set(d, pc + 4);
        act(t);
        restsUntil = cycle + 1;
    }

    private void instruction(int w) {
        int o = w & 127;
        int d = w >> 7 & 31;
        int f = w >> 12 & 7;
        int xa = x[w >> 15 & 31];
        int xb = x[w >> 20 & 31];
        int g = w >>> 25;
        int i = w >> 20;
        int u = w & -4096;
        int s = (w >> 25) * 32 + d;
        int n = (w >> 31) * 4096 + (w >> 7 & 1) * 2048 + (w >> 25 & 63) * 32 + (w >> 8 & 15) * 2;
        int j = (w >> 31) * 1048576 + (w >> 12 & 255) * 4096 + (w >> 20 & 1) * 2048 + (w >> 21 & 1023) * 2;
        if (o == 55) {
            result(w, u);
        } else if (o == 23) {
            result(w, pc + u);
        } else if (o == 111) {
            jump(d, pc + j);
        } else if (o == 103 && f == 0) {
            jump(d, (xa + i) & -2);
        } else if (o == 99 && f != 2 && f != 3) {
            long ux = Integer.toUnsignedLong(xa);
            long uy = Integer.toUnsignedLong(xb);
            boolean less = f < 6 ? xa < xb : ux < uy;
            boolean first = f < 2 ? xa == xb : less;
            if (first == (f % 2 == 0)) {
                jump(0, pc + n);
            } else {
                act(pc + 4);
            }
        } else if (o == 51 && g == 1) {
            result(w, product(f, xa, xb));
            restsUntil = cycle + (f < 4 ? 1 : 7);
        } else if (o == 51 && (g == 0 || g == 32 && (f == 0 || f == 5))) {
            result(w, simple(f, g == 32, xa, xb));
        } else if (o == 19 && (f % 4 != 1 || g == 0 || g == 32 && f == 5)) {
            result(w, simple(f, g == 32 && f == 5, xa, i));
        } else if (o == 3 && f == 2) {
            load(w, xa + i);
        } else if (o == 35 && f == 2) {
            store(xa + s, xb);
        } else if (o == 15 && f < 2) {
            if (buffer.isEmpty()) {
                if (f == 1) {
                    codeLines.clear();
                }
                act(pc + 4);
            }
        } else if (o == 115 && f % 4 != 0) {
            controlRegister(w, f, xa);
        } else {
            special(w);
        }
    }

    private void special(int w) {
        if (w == 115) {
            trap(11, 0, false);
        } else if (w == 1048691) {
            trap(3, 0, false);
        } else if (w == 807403635) {
            act(csr.get(833));
            csr.put(768, 128 + (csr.get(768) >= 128 ? 8 : 0));
            restsUntil = cycle + 1;
        } else if (w == 273678451) {
            asleep = true;
            act(pc + 4);
        } else {
            trap(2, w, false);
        }
    }

    private static int simple(int f, boolean other, int p, int q) {
        int shift = q & 31;
        return switch (f) {
            case 0 -> other ? p - q : p + q;
            case 1 -> p << shift;
            case 2 -> p < q ? 1 : 0;
            case 3 -> Integer.toUnsignedLong(p) < Integer.toUnsignedLong(q) ? 1 : 0;
            case 4 -> p ^ q;
            case 5 -> other ? p >> shift : p >>> shift;
            case 6 -> p | q;
            default -> p & q;
        };
    }

    private static BigInteger big(int v, boolean unsigned) {
        BigInteger b = BigInteger.valueOf(v);
        return unsigned && v < 0 ? b.add(TWO_32) : b;
    }

    private static int product(int f, int p, int q) {
        if (f < 4) {
            BigInteger whole = big(p, f == 3).multiply(big(q, f >= 2));
            return f == 0 ? whole.intValue() : whole.shiftRight(32).intValue();
        }
        boolean unsigned = f % 2 == 1;
        if (q == 0) {
            return f < 6 ? -1 : p;
        }
        BigInteger[] parts = big(p, unsigned).divideAndRemainder(big(q, unsigned));
        return parts[f < 6 ? 0 : 1].intValue();
    }

    private static boolean isDevice(int t) {
        return t >= 4096 && t <= 4156;
    }

    private void load(int w, int t) {
        boolean word = t >= 0 && t <= 508;
        if (t % 4 != 0) {
            trap(4, t, false);
        } else if (!word && !isDevice(t)) {
            trap(5, t, false);
        } else if (word && cached(dataLines, t / 4) != null) {
            result(w, cached(dataLines, t / 4));
        } else if (buffer.isEmpty()) {
            if (word) {
                wantBlock(2, dataLines, t / 4);
            } else {
                want(3, 0, () -> result(w, loadDevice((t - 4096) / 4)));
            }
        }
    }

    private void store(int t, int v) {
        boolean word = t >= 0 && t <= 508;
        if (t % 4 != 0) {
            trap(6, t, false);
        } else if (!word && !isDevice(t)) {
            trap(7, t, false);
        } else if (word && buffer.size() < 2) {
            buffer.addLast(new int[] {t / 4, v});
            if (cached(dataLines, t / 4) != null) {
                dataLines.get(t / 16 % lines).words()[t / 4 % 4] = v;
            }
            act(pc + 4);
        } else if (!word && buffer.isEmpty()) {
            want(3, 0, () -> {
                storeDevice((t - 4096) / 4, v);
                act(pc + 4);
            });
        }
    }

    private void controlRegister(int w, int f, int xa) {
        int n = w >>> 20;
        int a = w >> 15 & 31;
        boolean stores = f % 4 == 1 || a != 0;
        if (n != 3072 && !KEPT.containsKey(n) || n == 3072 && stores) {
            trap(2, w, false);
            return;
        }
        int y = f > 4 ? a : xa;
        int v = control(n);
        if (stores) {
            int stored = f % 4 == 1 ? y : f % 4 == 2 ? v | y : v & ~y;
            csr.put(n, stored & KEPT.get(n));
        }
        result(w, v);
    }

    private int loadDevice(int r) {
        switch (r) {
            case 0: return (int) time;
            case 1: return (int) (time >>> 32);
            case 2: return (int) compare;
            case 3: return (int) (compare >>> 32);
            case 4: return enable;
            case 5: return threshold;
            case 6: return claim();
            case 7: return sources() & 255;
            case 8: return priorities;
            case 12: return received.isEmpty() ? -1 : received.removeFirst();
            case 13: return (received.isEmpty() ? 0 : 1) + (sending.size() == 8 ? 2 : 0)
                + (overrun ? 4 : 0) + (onTheWay != null ? 8 : 0);
            case 14: return divisor;
            case 15: return enables;
            default: return 0;
        }
    }

    private int claim() {
        for (int p = 7; p > 0; p--) {
            for (int s = 1; s < 8; s++) {
                if (raised(s) && priority(s) == p) {
                    pending[s] = false;
                    service[s] = true;
                    return s;
                }
            }
        }
        return 0;
    }

    private void storeDevice(int r, int v) {
        long word = Integer.toUnsignedLong(v);
        switch (r) {
            case 0: time = (time >>> 32 << 32) + word; break;
            case 1: time = (time << 32 >>> 32) + (word << 32); break;
            case 2: compare = (compare >>> 32 << 32) + word; break;
            case 3: compare = (compare << 32 >>> 32) + (word << 32); break;
            case 4: enable = v & 254; break;
            case 5: threshold = v & 7; break;
            case 6: if (v > 0 && v < 8) { service[v] = false; } break;
            case 8: priorities = v & 2004318064; break;
            case 12: if (sending.size() < 8) { sending.addLast(v & 255); } break;
            case 13: overrun = false; break;
            case 14: divisor = (v & 255) == 0 ? 1 : v & 255; break;
            case 15: enables = v & 3; break;
            default: break;
        }
    }
}
