import java.util.Arrays;

/** A computer on one chip, stepped cycle by cycle; DOC.md numbers what it promises. */
public final class CycleChip {
    private static final int WORDS = 128;
    private static final int MOST_CYCLES = 1000;
    private static final int MOST_DELAY = 2000;

    private final int[] memory = new int[WORDS];
    private final Cache code;
    private final Cache data;
    private final StoreBuffer buffer = new StoreBuffer();
    private final Events events = new Events();
    private final Devices devices = new Devices();
    private final Bus bus;
    private final Core core;

    public CycleChip(int latency, int lines) {
        code = new Cache(oneToEight(lines));
        data = new Cache(oneToEight(lines));
        bus = new Bus(oneToEight(latency), memory, code, data, buffer);
        core = new Core(devices, bus, code, data, buffer);
    }

    public int poke(int p, int w) {
        if (!isWord(p)) {
            return 0;
        }
        int old = memory[p];
        memory[p] = w;
        return old;
    }

    public int peek(int p) {
        return isWord(p) ? memory[p] : 0;
    }

    public long held(boolean code, int p) {
        Cache cache = code ? this.code : data;
        if (!isWord(p) || !cache.holds(p)) {
            return -1;
        }
        return cache.word(p) & 0xFFFFFFFFL;
    }

    public boolean give(int k, int v) {
        if (!isRegister(k)) {
            return false;
        }
        core.setRegister(k, v);
        return true;
    }

    public int register(int k) {
        return isRegister(k) ? core.registers[k] : 0;
    }

    public int pc() {
        return core.pc;
    }

    public int control(int n) {
        return core.control.read(n, devices.interruptBits(), core.cycle);
    }

    public boolean plan(int delay, int what, int value) {
        boolean known = what == 0 || what >= 2 && what <= Interrupts.LAST;
        if (delay < 0 || delay > MOST_DELAY || !known) {
            return false;
        }
        return events.add(core.cycle + delay, what, value);
    }

    public int planned() {
        return events.count;
    }

    public int run(int n) {
        if (n < 0 || n > MOST_CYCLES) {
            return -1;
        }
        int before = core.acts.total;
        for (int i = 0; i < n; i++) {
            oneCycle();
        }
        return core.acts.total - before;
    }

    public int cycles() {
        return core.cycle;
    }

    public int traps() {
        return core.trapCount;
    }

    public int actCycle(int k) {
        return core.acts.has(k) ? core.acts.cycleOf(k) : -1;
    }

    public int actAddress(int k) {
        return core.acts.has(k) ? core.acts.valueOf(k) : -1;
    }

    public long sent(int k) {
        Log out = devices.serial.out;
        if (k == -1) {
            return out.total;
        }
        return out.has(k) ? out.cycleOf(k) * 256L + out.valueOf(k) : -1;
    }

    public int queued(boolean sending) {
        return sending ? devices.serial.sending.count : devices.serial.received.count;
    }

    public int stores() {
        return buffer.count;
    }

    public int bus() {
        return bus.served;
    }

    public int sources() {
        return devices.interrupts.pending + 256 * devices.interrupts.inService;
    }

    private void oneCycle() {
        int now = core.cycle;
        events.happen(now, devices);
        devices.serial.advanceSender(now);
        devices.interrupts.gather(devices.serial.isLineHigh());
        if (bus.finish(now) == Bus.DEVICE) {
            core.finishDevice();
        }
        bus.begin(now);
        if (core.comesToInstruction()) {
            core.perform();
        }
        devices.time++;
        core.cycle++;
    }

    private static boolean isWord(int p) {
        return p >= 0 && p < WORDS;
    }

    private static boolean isRegister(int k) {
        return k >= 0 && k < 32;
    }

    private static int oneToEight(int v) {
        return Math.max(1, Math.min(8, v));
    }

    /** Lines of four words; the same kind serves code and data. */
    private static final class Cache {
        private final int lines;
        private final int[] blocks;
        private final int[] words;

        Cache(int lines) {
            this.lines = lines;
            blocks = new int[lines];
            words = new int[4 * lines];
            Arrays.fill(blocks, -1);
        }

        boolean holds(int p) {
            return blocks[(p >> 2) % lines] == p >> 2;
        }

        int word(int p) {
            return words[place(p)];
        }

        void change(int p, int w) {
            if (holds(p)) {
                words[place(p)] = w;
            }
        }

        void fill(int block, int[] memory) {
            blocks[block % lines] = block;
            System.arraycopy(memory, 4 * block, words, place(4 * block), 4);
        }

        void drop() {
            Arrays.fill(blocks, -1);
        }

        private int place(int p) {
            return (p >> 2) % lines * 4 + (p & 3);
        }
    }

    /** The stores on their way to the memory, the oldest first. */
    private static final class StoreBuffer {
        private static final int ROOM = 2;

        private final int[] places = new int[ROOM];
        private final int[] values = new int[ROOM];
        int count;

        boolean isFull() {
            return count == ROOM;
        }

        void add(int p, int w) {
            if (!isFull()) {
                places[count] = p;
                values[count] = w;
                count++;
            }
        }

        void writeOldest(int[] memory) {
            if (count > 0) {
                memory[places[0]] = values[0];
                places[0] = places[1];
                values[0] = values[1];
                count--;
            }
        }
    }

    /** Up to eight bytes, first in, first out. */
    private static final class ByteQueue {
        private static final int ROOM = 8;

        private final int[] bytes = new int[ROOM];
        private int first;
        int count;

        boolean isFull() {
            return count == ROOM;
        }

        boolean isEmpty() {
            return count == 0;
        }

        void put(int b) {
            if (!isFull()) {
                bytes[first + count & ROOM - 1] = b & 255;
                count++;
            }
        }

        int take() {
            if (isEmpty()) {
                return -1;
            }
            int b = bytes[first];
            first = first + 1 & ROOM - 1;
            count--;
            return b;
        }
    }

    /** The sixteen latest happenings, each a value and its cycle, and how many there were in all. */
    private static final class Log {
        private static final int ROOM = 16;

        private final int[] cycles = new int[ROOM];
        private final int[] values = new int[ROOM];
        int total;

        void add(int cycle, int value) {
            int at = total & ROOM - 1;
            cycles[at] = cycle;
            values[at] = value;
            total++;
        }

        boolean has(int k) {
            return k >= 0 && k < ROOM && k < total;
        }

        int cycleOf(int k) {
            return cycles[total - 1 - k & ROOM - 1];
        }

        int valueOf(int k) {
            return values[total - 1 - k & ROOM - 1];
        }
    }

    /** The events that are planned, in the order of their planning. */
    private static final class Events {
        private static final int ROOM = 16;

        private final int[] due = new int[ROOM];
        private final int[] whats = new int[ROOM];
        private final int[] values = new int[ROOM];
        int count;

        boolean add(int cycle, int what, int value) {
            if (count >= ROOM) {
                return false;
            }
            due[count] = cycle;
            whats[count] = what;
            values[count] = value;
            count++;
            return true;
        }

        void happen(int now, Devices devices) {
            int kept = 0;
            for (int i = 0; i < count; i++) {
                if (due[i] == now) {
                    devices.happen(whats[i], values[i]);
                } else {
                    due[kept] = due[i];
                    whats[kept] = whats[i];
                    values[kept] = values[i];
                    kept++;
                }
            }
            count = kept;
        }
    }

    /** The serial port: a queue each way, and the byte that is on its way out. */
    private static final class Serial {
        final ByteQueue received = new ByteQueue();
        final ByteQueue sending = new ByteQueue();
        final Log out = new Log();
        private boolean overrun;
        private int divisor = 1;
        private int enables;
        private boolean busy;
        private int current;
        private int outCycle;

        void arrive(int b) {
            if (received.isFull()) {
                overrun = true;
            } else {
                received.put(b);
            }
        }

        void advanceSender(int now) {
            if (busy && outCycle == now) {
                out.add(now, current);
                busy = false;
            }
            if (!busy && !sending.isEmpty()) {
                current = sending.take();
                outCycle = now + 10 * divisor;
                busy = true;
            }
        }

        boolean isLineHigh() {
            return (enables & 1) != 0 && !received.isEmpty()
                || (enables & 2) != 0 && sending.isEmpty();
        }

        int load(int r) {
            switch (r) {
                case 12:
                    return received.take();
                case 13:
                    return state();
                case 14:
                    return divisor;
                default:
                    return enables;
            }
        }

        void store(int r, int v) {
            switch (r) {
                case 12:
                    sending.put(v);
                    break;
                case 13:
                    overrun = false;
                    break;
                case 14:
                    divisor = Math.max(1, v & 255);
                    break;
                default:
                    enables = v & 3;
            }
        }

        private int state() {
            return (received.isEmpty() ? 0 : 1) + (sending.isFull() ? 2 : 0)
                + (overrun ? 4 : 0) + (busy ? 8 : 0);
        }
    }

    /** The interrupt controller; bit s of each mask stands for source s. */
    private static final class Interrupts {
        static final int LAST = 7;

        private int high;
        private int enable;
        private int threshold;
        private int priorities;
        int pending;
        int inService;

        void setLine(int source, boolean up) {
            high = up ? high | 1 << source : high & ~(1 << source);
        }

        void gather(boolean serialHigh) {
            int lines = high | (serialHigh ? 2 : 0);
            pending |= lines & ~inService;
        }

        /** The raised source that a claim would get, 0 when none is raised. */
        int firstRaised() {
            int candidates = pending & enable;
            int best = 0;
            int bestPriority = threshold;
            for (int s = 1; s <= LAST && candidates != 0; s++) {
                int priority = priorities >> 4 * s & 7;
                if ((candidates >> s & 1) != 0 && priority > bestPriority) {
                    best = s;
                    bestPriority = priority;
                }
            }
            return best;
        }

        int load(int r) {
            switch (r) {
                case 4:
                    return enable;
                case 5:
                    return threshold;
                case 6:
                    return claim();
                case 7:
                    return pending;
                default:
                    return priorities;
            }
        }

        void store(int r, int v) {
            switch (r) {
                case 4:
                    enable = v & 254;
                    break;
                case 5:
                    threshold = v & 7;
                    break;
                case 6:
                    endService(v);
                    break;
                case 8:
                    priorities = v & 0x77777770;
                    break;
                default:
                    break;
            }
        }

        private int claim() {
            int source = firstRaised();
            if (source != 0) {
                pending &= ~(1 << source);
                inService |= 1 << source;
            }
            return source;
        }

        private void endService(int source) {
            if (source >= 1 && source <= LAST) {
                inService &= ~(1 << source);
            }
        }
    }

    /** The timer, and the way to the registers of all devices. */
    private static final class Devices {
        private static final long LOW = 0xFFFFFFFFL;

        final Interrupts interrupts = new Interrupts();
        final Serial serial = new Serial();
        long time;
        private long compare = -1;

        void happen(int what, int value) {
            if (what == 0) {
                serial.arrive(value);
            } else {
                interrupts.setLine(what, value != 0);
            }
        }

        /** The bits of MIP. */
        int interruptBits() {
            int timer = Long.compareUnsigned(time, compare) >= 0 ? Control.TIMER_BIT : 0;
            int outside = interrupts.firstRaised() != 0 ? Control.OUTSIDE_BIT : 0;
            return timer | outside;
        }

        int load(int r) {
            switch (r) {
                case 0:
                    return (int) time;
                case 1:
                    return (int) (time >> 32);
                case 2:
                    return (int) compare;
                case 3:
                    return (int) (compare >> 32);
                case 4:
                case 5:
                case 6:
                case 7:
                case 8:
                    return interrupts.load(r);
                case 12:
                case 13:
                case 14:
                case 15:
                    return serial.load(r);
                default:
                    return 0;
            }
        }

        void store(int r, int v) {
            switch (r) {
                case 0:
                    time = withLow(time, v);
                    break;
                case 1:
                    time = withHigh(time, v);
                    break;
                case 2:
                    compare = withLow(compare, v);
                    break;
                case 3:
                    compare = withHigh(compare, v);
                    break;
                case 4:
                case 5:
                case 6:
                case 7:
                case 8:
                    interrupts.store(r, v);
                    break;
                case 12:
                case 13:
                case 14:
                case 15:
                    serial.store(r, v);
                    break;
                default:
                    break;
            }
        }

        private static long withLow(long old, int v) {
            return old & ~LOW | v & LOW;
        }

        private static long withHigh(long old, int v) {
            return old & LOW | (long) v << 32;
        }
    }

    /** The one bus: it serves a request of the core or a store of the buffer at a time. */
    private static final class Bus {
        static final int NONE = 0;
        static final int CODE = 1;
        static final int DATA = 2;
        static final int DEVICE = 3;
        static final int STORE = 4;

        private final int latency;
        private final int[] memory;
        private final Cache code;
        private final Cache data;
        private final StoreBuffer buffer;
        private int wanted = NONE;
        private int block;
        private int doneCycle;
        private int begunBefore = NONE;
        int served = NONE;

        Bus(int latency, int[] memory, Cache code, Cache data, StoreBuffer buffer) {
            this.latency = latency;
            this.memory = memory;
            this.code = code;
            this.data = data;
            this.buffer = buffer;
        }

        void want(int request, int ofBlock) {
            wanted = request;
            block = ofBlock;
        }

        boolean keepsCoreWaiting() {
            return wanted != NONE || served != NONE && served != STORE;
        }

        /** Answers the request that is done in this cycle; what a DEVICE does is left to the core. */
        int finish(int now) {
            if (served == NONE || doneCycle != now) {
                return NONE;
            }
            int done = served;
            served = NONE;
            if (done == STORE) {
                buffer.writeOldest(memory);
            } else if (done == CODE) {
                code.fill(block, memory);
            } else if (done == DATA) {
                data.fill(block, memory);
            }
            return done;
        }

        void begin(int now) {
            boolean storeWanted = buffer.count > 0;
            if (served != NONE || wanted == NONE && !storeWanted) {
                return;
            }
            boolean coreIsFirst = begunBefore == STORE || begunBefore == NONE;
            if (wanted != NONE && (coreIsFirst || !storeWanted)) {
                served = wanted;
                wanted = NONE;
            } else {
                served = STORE;
            }
            begunBefore = served;
            doneCycle = now + duration(served);
        }

        private int duration(int request) {
            if (request == DEVICE) {
                return 1;
            }
            return request == STORE ? latency : 4 * latency;
        }
    }

    /** The control registers that hold something; MIP and CYCLE are worked out elsewhere. */
    private static final class Control {
        static final int TIMER_BIT = 128;
        static final int OUTSIDE_BIT = 2048;
        static final int CYCLE = 3072;
        private static final int ON = 8;
        private static final int WAS_ON = 128;

        private int status;
        private int enabled;
        private int vector;
        private int scratch;
        private int trapPc;
        private int cause;
        private int trapValue;

        static boolean exists(int n) {
            switch (n) {
                case 768:
                case 772:
                case 773:
                case 832:
                case 833:
                case 834:
                case 835:
                case 836:
                case CYCLE:
                    return true;
                default:
                    return false;
            }
        }

        int read(int n, int interruptBits, int cycle) {
            switch (n) {
                case 768:
                    return status;
                case 772:
                    return enabled;
                case 773:
                    return vector;
                case 832:
                    return scratch;
                case 833:
                    return trapPc;
                case 834:
                    return cause;
                case 835:
                    return trapValue;
                case 836:
                    return interruptBits;
                case CYCLE:
                    return cycle;
                default:
                    return 0;
            }
        }

        void write(int n, int v) {
            switch (n) {
                case 768:
                    status = v & (ON | WAS_ON);
                    break;
                case 772:
                    enabled = v & (TIMER_BIT | OUTSIDE_BIT);
                    break;
                case 773:
                    vector = v & -3;
                    break;
                case 832:
                    scratch = v;
                    break;
                case 833:
                    trapPc = v & -4;
                    break;
                case 834:
                    cause = v;
                    break;
                case 835:
                    trapValue = v;
                    break;
                default:
                    break;
            }
        }

        boolean interruptsAreOn() {
            return (status & ON) != 0;
        }

        int enabledOf(int interruptBits) {
            return interruptBits & enabled;
        }

        void enterTrap(int newCause, int value, int pc) {
            trapPc = pc;
            cause = newCause;
            trapValue = value;
            status = (status & ON) != 0 ? WAS_ON : 0;
        }

        void leaveTrap() {
            status = (status & WAS_ON) != 0 ? ON | WAS_ON : WAS_ON;
        }

        int trapAddress() {
            return vector & -4;
        }

        int interruptAddress(int n) {
            return (vector & 1) != 0 ? trapAddress() + 4 * n : trapAddress();
        }
    }

    /** The processor: what it does in the part CORE of a cycle. */
    private static final class Core {
        private static final int DEVICE_BASE = 4096;
        private static final int DEVICE_END = DEVICE_BASE + 4 * 16;
        private static final int JUMP_ASTRAY = 0;
        private static final int NO_CODE = 1;
        private static final int ILLEGAL = 2;
        private static final int BREAK = 3;
        private static final int LOAD_ASTRAY = 4;
        private static final int NO_LOAD = 5;
        private static final int STORE_ASTRAY = 6;
        private static final int NO_STORE = 7;
        private static final int CALL = 11;
        private static final int TIMER = 7;
        private static final int OUTSIDE = 11;
        private static final int INTERRUPT = 1 << 31;
        private static final int ECALL = 115;
        private static final int EBREAK = 1048691;
        private static final int MRET = 807403635;
        private static final int WFI = 273678451;
        private static final int MULTIPLY_REST = 1;
        private static final int DIVIDE_REST = 7;

        final int[] registers = new int[32];
        final Control control = new Control();
        final Log acts = new Log();
        int pc;
        int cycle;
        int trapCount;
        private final Devices devices;
        private final Bus bus;
        private final Cache code;
        private final Cache data;
        private final StoreBuffer buffer;
        private int rest;
        private boolean asleep;
        private int deviceRegister;
        private boolean deviceStores;
        private int deviceValue;
        private int deviceTarget;

        Core(Devices devices, Bus bus, Cache code, Cache data, StoreBuffer buffer) {
            this.devices = devices;
            this.bus = bus;
            this.code = code;
            this.data = data;
            this.buffer = buffer;
        }

        void setRegister(int k, int v) {
            if (k != 0) {
                registers[k] = v;
            }
        }

        /** All of CORE before an instruction is done; true when this cycle gets as far as that. */
        boolean comesToInstruction() {
            if (bus.keepsCoreWaiting()) {
                return false;
            }
            if (rest > 0) {
                rest--;
                return false;
            }
            if (asleep && control.enabledOf(devices.interruptBits()) == 0) {
                return false;
            }
            asleep = false;
            int due = control.interruptsAreOn() ? control.enabledOf(devices.interruptBits()) : 0;
            if (due != 0) {
                interrupt((due & Control.OUTSIDE_BIT) != 0 ? OUTSIDE : TIMER);
                return false;
            }
            if (!isMemory(pc)) {
                trap(NO_CODE, pc);
                return false;
            }
            if (!code.holds(pc >> 2)) {
                bus.want(Bus.CODE, pc >> 4);
                return false;
            }
            return true;
        }

        void finishDevice() {
            if (deviceStores) {
                devices.store(deviceRegister, deviceValue);
            } else {
                setRegister(deviceTarget, devices.load(deviceRegister));
            }
            act(pc + 4);
        }

        private void interrupt(int n) {
            control.enterTrap(n + INTERRUPT, 0, pc);
            goToTrap(control.interruptAddress(n));
        }

        private void trap(int n, int value) {
            control.enterTrap(n, value, pc);
            goToTrap(control.trapAddress());
        }

        private void goToTrap(int address) {
            trapCount++;
            pc = address;
            rest = 1;
        }

        private void act(int next) {
            acts.add(cycle, pc);
            pc = next;
        }

        private void actWith(int d, int v) {
            setRegister(d, v);
            act(pc + 4);
        }

        void perform() {
            int w = code.word(pc >> 2);
            switch (w & 127) {
                case 55:
                    actWith(fieldD(w), w & -4096);
                    break;
                case 23:
                    actWith(fieldD(w), pc + (w & -4096));
                    break;
                case 111:
                    jump(fieldD(w), pc + jumpOffset(w));
                    break;
                case 103:
                    jumpToRegister(w);
                    break;
                case 99:
                    branch(w);
                    break;
                case 51:
                    calculate(w);
                    break;
                case 19:
                    calculateWithConstant(w);
                    break;
                case 3:
                    load(w);
                    break;
                case 35:
                    store(w);
                    break;
                case 15:
                    fence(w);
                    break;
                case 115:
                    if ((fieldF(w) & 3) != 0) {
                        changeControl(w);
                    } else {
                        system(w);
                    }
                    break;
                default:
                    trap(ILLEGAL, w);
            }
        }

        private void jump(int d, int t) {
            if ((t & 2) != 0) {
                trap(JUMP_ASTRAY, t);
            } else {
                setRegister(d, pc + 4);
                act(t);
                rest = 1;
            }
        }

        private void jumpToRegister(int w) {
            if (fieldF(w) != 0) {
                trap(ILLEGAL, w);
            } else {
                jump(fieldD(w), registers[fieldA(w)] + (w >> 20) & -2);
            }
        }

        private void branch(int w) {
            int f = fieldF(w);
            if (f == 2 || f == 3) {
                trap(ILLEGAL, w);
            } else if (isTrue(f, registers[fieldA(w)], registers[fieldB(w)])) {
                jump(0, pc + branchOffset(w));
            } else {
                act(pc + 4);
            }
        }

        private void calculate(int w) {
            int f = fieldF(w);
            int g = w >>> 25;
            int x = registers[fieldA(w)];
            int y = registers[fieldB(w)];
            if (g == 0) {
                actWith(fieldD(w), plain(f, x, y));
            } else if (g == 32 && f == 0) {
                actWith(fieldD(w), x - y);
            } else if (g == 32 && f == 5) {
                actWith(fieldD(w), x >> y);
            } else if (g == 1) {
                actWith(fieldD(w), f < 4 ? product(f, x, y) : quotient(f, x, y));
                rest = f < 4 ? MULTIPLY_REST : DIVIDE_REST;
            } else {
                trap(ILLEGAL, w);
            }
        }

        private void calculateWithConstant(int w) {
            int f = fieldF(w);
            int g = w >>> 25;
            int x = registers[fieldA(w)];
            int y = w >> 20;
            boolean shifts = f == 1 || f == 5;
            if (!shifts || g == 0) {
                actWith(fieldD(w), plain(f, x, y));
            } else if (g == 32 && f == 5) {
                actWith(fieldD(w), x >> y);
            } else {
                trap(ILLEGAL, w);
            }
        }

        private void load(int w) {
            int t = registers[fieldA(w)] + (w >> 20);
            if (fieldF(w) != 2) {
                trap(ILLEGAL, w);
            } else if ((t & 3) != 0) {
                trap(LOAD_ASTRAY, t);
            } else if (isDevice(t)) {
                wantDevice(t, false, 0, fieldD(w));
            } else if (!isMemory(t)) {
                trap(NO_LOAD, t);
            } else if (data.holds(t >> 2)) {
                actWith(fieldD(w), data.word(t >> 2));
            } else if (buffer.count == 0) {
                bus.want(Bus.DATA, t >> 4);
            }
        }

        private void store(int w) {
            int t = registers[fieldA(w)] + (w >> 25) * 32 + fieldD(w);
            int v = registers[fieldB(w)];
            if (fieldF(w) != 2) {
                trap(ILLEGAL, w);
            } else if ((t & 3) != 0) {
                trap(STORE_ASTRAY, t);
            } else if (isDevice(t)) {
                wantDevice(t, true, v, 0);
            } else if (!isMemory(t)) {
                trap(NO_STORE, t);
            } else if (!buffer.isFull()) {
                buffer.add(t >> 2, v);
                data.change(t >> 2, v);
                act(pc + 4);
            }
        }

        private void wantDevice(int t, boolean stores, int v, int d) {
            if (buffer.count == 0) {
                deviceRegister = t - DEVICE_BASE >> 2;
                deviceStores = stores;
                deviceValue = v;
                deviceTarget = d;
                bus.want(Bus.DEVICE, 0);
            }
        }

        private void fence(int w) {
            int f = fieldF(w);
            if (f > 1) {
                trap(ILLEGAL, w);
            } else if (buffer.count == 0) {
                if (f == 1) {
                    code.drop();
                }
                act(pc + 4);
            }
        }

        private void system(int w) {
            if (w == ECALL) {
                trap(CALL, 0);
            } else if (w == EBREAK) {
                trap(BREAK, 0);
            } else if (w == MRET) {
                act(control.trapPc);
                control.leaveTrap();
                rest = 1;
            } else if (w == WFI) {
                act(pc + 4);
                asleep = true;
            } else {
                trap(ILLEGAL, w);
            }
        }

        private void changeControl(int w) {
            int n = w >>> 20;
            int f = fieldF(w);
            int a = fieldA(w);
            int way = f & 3;
            boolean writes = way == 1 || a != 0;
            if (!Control.exists(n) || n == Control.CYCLE && writes) {
                trap(ILLEGAL, w);
                return;
            }
            int y = f < 4 ? registers[a] : a;
            int old = control.read(n, devices.interruptBits(), cycle);
            if (writes) {
                control.write(n, way == 1 ? y : way == 2 ? old | y : old & ~y);
            }
            actWith(fieldD(w), old);
        }

        private static boolean isMemory(int t) {
            return (t & 3) == 0 && t >= 0 && t < 4 * WORDS;
        }

        private static boolean isDevice(int t) {
            return t >= DEVICE_BASE && t < DEVICE_END;
        }

        private static int fieldD(int w) {
            return w >> 7 & 31;
        }

        private static int fieldF(int w) {
            return w >> 12 & 7;
        }

        private static int fieldA(int w) {
            return w >> 15 & 31;
        }

        private static int fieldB(int w) {
            return w >> 20 & 31;
        }

        private static int branchOffset(int w) {
            return (w >> 31) * 4096 + (w >> 7 & 1) * 2048 + (w >> 25 & 63) * 32 + (w >> 8 & 15) * 2;
        }

        private static int jumpOffset(int w) {
            return (w >> 31) * 1048576 + (w >> 12 & 255) * 4096
                + (w >> 20 & 1) * 2048 + (w >> 21 & 1023) * 2;
        }

        private static boolean isTrue(int f, int x, int y) {
            switch (f) {
                case 0:
                    return x == y;
                case 1:
                    return x != y;
                case 4:
                    return x < y;
                case 5:
                    return x >= y;
                case 6:
                    return Integer.compareUnsigned(x, y) < 0;
                default:
                    return Integer.compareUnsigned(x, y) >= 0;
            }
        }

        private static int plain(int f, int x, int y) {
            switch (f) {
                case 0:
                    return x + y;
                case 1:
                    return x << y;
                case 2:
                    return x < y ? 1 : 0;
                case 3:
                    return Integer.compareUnsigned(x, y) < 0 ? 1 : 0;
                case 4:
                    return x ^ y;
                case 5:
                    return x >>> y;
                case 6:
                    return x | y;
                default:
                    return x & y;
            }
        }

        private static int product(int f, int x, int y) {
            switch (f) {
                case 0:
                    return x * y;
                case 1:
                    return (int) ((long) x * y >> 32);
                case 2:
                    return (int) (x * (y & Devices.LOW) >> 32);
                default:
                    return (int) ((x & Devices.LOW) * (y & Devices.LOW) >>> 32);
            }
        }

        private static int quotient(int f, int x, int y) {
            if (y == 0) {
                return f < 6 ? -1 : x;
            }
            switch (f) {
                case 4:
                    return x / y;
                case 5:
                    return (int) ((x & Devices.LOW) / (y & Devices.LOW));
                case 6:
                    return x % y;
                default:
                    return (int) ((x & Devices.LOW) % (y & Devices.LOW));
            }
        }
    }
}
