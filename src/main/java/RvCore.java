/** A computer of the RISC-V kind in its machine mode alone: 32 bits, a timer, a port that bytes go out by. */
public final class RvCore {
    public static final int RETIRED = 0, TRAPPED = 1, INTERRUPTED = 2, WAITS = 3, REFUSED = 4, BAD = -2;

    private static final int LEAST_BYTES = 64, MOST_BYTES = 65536, MOST_SENT = 4096, MOST_STEPS = 100000;

    private static final int WORD_CALL = 0x73, WORD_BREAK = 0x100073, WORD_BACK = 0x30200073, WORD_WAIT = 0x10500073;

    private static final int CAUSE_JUMP = 0, CAUSE_FETCH = 1, CAUSE_ILLEGAL = 2, CAUSE_BREAK = 3,
            CAUSE_READ_ALIGN = 4, CAUSE_READ = 5, CAUSE_STORE_ALIGN = 6, CAUSE_STORE = 7, CAUSE_CALL = 11,
            CAUSE_TIMER = 0x80000007;

    /** How far behind the base of mtvec the timer's own entry lies, if mtvec asks for entries of their own. */
    private static final int TIMER_ENTRY = 28;

    private final Memory memory;
    private final Timer timer;
    private final Port port;
    private final Controls controls;
    private final int[] x;
    private int place;
    private boolean waiting;
    private long retired;
    private int latest;

    public RvCore(int bytes, int port) {
        this.memory = new Memory(Math.max(LEAST_BYTES, Math.min(MOST_BYTES, bytes)));
        this.timer = new Timer();
        this.port = new Port(Math.max(0, Math.min(MOST_SENT, port)));
        this.controls = new Controls();
        this.x = new int[32];
        reset();
    }

    public void reset() {
        for (int i = 0; i < x.length; i++) {
            x[i] = 0;
        }
        place = 0;
        waiting = false;
        retired = 0;
        latest = RETIRED;
        timer.restart();
        port.restart();
        controls.restart();
    }

    public boolean poke(int address, int b) {
        if (!memory.holds(address)) {
            return false;
        }
        memory.put(address, 1, b);
        return true;
    }

    public boolean load(int address, int w) {
        // The first test keeps address + 3 from running over.
        if (!memory.holds(address) || !memory.holds(address + 3)) {
            return false;
        }
        for (int i = 0; i < 4; i++) {
            memory.put(address + i, 1, w >>> (8 * i));
        }
        return true;
    }

    public int peek(int address) {
        return memory.holds(address) ? memory.get(address, 1) : -1;
    }

    public int step() {
        latest = stepOnce();
        return latest;
    }

    public int run(int n) {
        if (n < 0 || n > MOST_STEPS) {
            return BAD;
        }
        for (int done = 1; done <= n; done++) {
            latest = stepOnce();
            timer.advance();
            if (latest != RETIRED) {
                return done;
            }
        }
        return n;
    }

    public void tick() {
        timer.advance();
    }

    public int reg(int i) {
        return x[i & 31];
    }

    public int pc() {
        return place;
    }

    public int csr(int number) {
        return Controls.lists(number) ? controls.get(number, timer.isDue()) : 0;
    }

    public long told(int which) {
        switch (which) {
            case 0:
                return timer.time;
            case 1:
                return timer.limit;
            case 2:
                return retired;
            case 3:
                return waiting ? 1 : 0;
            case 4:
                return latest;
            default:
                return 0;
        }
    }

    public int outSize() {
        return port.sent;
    }

    public int out(int i) {
        return port.byteAt(i);
    }

    // One STEP.

    private int stepOnce() {
        boolean wakes = controls.timerEnabled() && timer.isDue();
        if (wakes && controls.interruptsOn) {
            waiting = false;
            int base = controls.enter(place, CAUSE_TIMER, 0);
            place = controls.hasOwnEntries() ? base + TIMER_ENTRY : base;
            return INTERRUPTED;
        }
        if (waiting && !wakes) {
            return WAITS;
        }
        boolean waited = waiting;
        waiting = false;
        int answer = instruct();
        if (answer == REFUSED) {
            // Nothing is done then, so the waiting has not ended either.
            waiting = waited;
        }
        return answer;
    }

    private int instruct() {
        if (!memory.holds(place)) {
            return trap(CAUSE_FETCH, place);
        }
        int word = memory.get(place, 4);
        switch (word & 127) {
            case 0x37:
                return retire(word, word & 0xFFFFF000);
            case 0x17:
                return retire(word, place + (word & 0xFFFFF000));
            case 0x6F:
                return jump(word, place + offsetJ(word));
            case 0x67:
                return f(word) == 0 ? jump(word, (a(word) + offsetI(word)) & ~1) : illegal(word);
            case 0x63:
                return branch(word);
            case 0x03:
                return read(word);
            case 0x23:
                return store(word);
            case 0x13:
                return reckonWithNumber(word);
            case 0x33:
                return reckonWithRegister(word);
            case 0x0F:
                return f(word) == 0 ? retireAt(place + 4) : illegal(word);
            case 0x73:
                return f(word) == 0 ? system(word) : control(word);
            default:
                return illegal(word);
        }
    }

    // How an instruction ends.

    private int retire(int word, int value) {
        setD(word, value);
        return retireAt(place + 4);
    }

    private int retireAt(int next) {
        place = next;
        retired++;
        return RETIRED;
    }

    private int trap(int cause, int value) {
        place = controls.enter(place, cause, value);
        return TRAPPED;
    }

    private int illegal(int word) {
        return trap(CAUSE_ILLEGAL, word);
    }

    // The parts of a word.

    private static int f(int word) {
        return (word >>> 12) & 7;
    }

    private static int g(int word) {
        return word >>> 25;
    }

    private static int s(int word) {
        return (word >>> 15) & 31;
    }

    private static int offsetI(int word) {
        return word >> 20;
    }

    private static int offsetS(int word) {
        return (word >> 25) << 5 | ((word >>> 7) & 31);
    }

    private static int offsetB(int word) {
        return (word >> 31) << 12 | ((word >>> 7) & 1) << 11 | ((word >>> 25) & 63) << 5 | ((word >>> 8) & 15) << 1;
    }

    private static int offsetJ(int word) {
        return (word >> 31) << 20 | (word & 0xFF000) | ((word >>> 20) & 1) << 11 | ((word >>> 21) & 1023) << 1;
    }

    private int a(int word) {
        return x[s(word)];
    }

    private int b(int word) {
        return x[(word >>> 20) & 31];
    }

    private void setD(int word, int value) {
        int d = (word >>> 7) & 31;
        if (d != 0) {
            x[d] = value;
        }
    }

    // Jumps.

    private int jump(int word, int target) {
        if ((target & 3) != 0) {
            return trap(CAUSE_JUMP, target);
        }
        setD(word, place + 4);
        return retireAt(target);
    }

    private int branch(int word) {
        int f = f(word);
        if (f == 2 || f == 3) {
            return illegal(word);
        }
        // An odd f asks for the contrary of the even one before it.
        boolean taken = compares(f & 6, a(word), b(word)) != ((f & 1) == 1);
        int target = taken ? place + offsetB(word) : place + 4;
        return (target & 3) != 0 ? trap(CAUSE_JUMP, target) : retireAt(target);
    }

    private static boolean compares(int f, int a, int b) {
        switch (f) {
            case 0:
                return a == b;
            case 4:
                return a < b;
            default:
                return belowUnsigned(a, b);
        }
    }

    private static boolean belowUnsigned(int a, int b) {
        return Integer.compareUnsigned(a, b) < 0;
    }

    // Reading and storing.

    private int read(int word) {
        int f = f(word);
        if (f == 3 || f > 5) {
            return illegal(word);
        }
        int size = 1 << (f & 3);
        int address = a(word) + offsetI(word);
        if ((address & (size - 1)) != 0) {
            return trap(CAUSE_READ_ALIGN, address);
        }
        if (memory.holds(address)) {
            return retire(word, extended(f, memory.get(address, size)));
        }
        if (size == 4 && Timer.holds(address)) {
            return retire(word, timer.half(address));
        }
        if (size == 4 && address == Port.ADDRESS) {
            return retire(word, port.room());
        }
        return trap(CAUSE_READ, address);
    }

    private static int extended(int f, int value) {
        switch (f) {
            case 0:
                return (byte) value;
            case 1:
                return (short) value;
            default:
                return value;
        }
    }

    private int store(int word) {
        int f = f(word);
        if (f > 2) {
            return illegal(word);
        }
        int size = 1 << f;
        int address = a(word) + offsetS(word);
        if ((address & (size - 1)) != 0) {
            return trap(CAUSE_STORE_ALIGN, address);
        }
        if (memory.holds(address)) {
            memory.put(address, size, b(word));
        } else if (size == 4 && Timer.holds(address)) {
            timer.setHalf(address, b(word));
        } else if (address != Port.ADDRESS) {
            return trap(CAUSE_STORE, address);
        } else if (!port.send(b(word))) {
            return REFUSED;
        }
        return retireAt(place + 4);
    }

    // Reckoning.

    private int reckonWithNumber(int word) {
        int f = f(word);
        int g = g(word);
        boolean known = f == 1 ? g == 0 : f != 5 || g == 0 || g == 32;
        if (!known) {
            return illegal(word);
        }
        return retire(word, reckoned(f, f == 5 && g == 32, a(word), offsetI(word)));
    }

    private int reckonWithRegister(int word) {
        int f = f(word);
        int g = g(word);
        int a = a(word);
        int b = b(word);
        if (g == 1) {
            return retire(word, f < 4 ? product(f, a, b) : divided(f, a, b));
        }
        if (g != 0 && (g != 32 || f != 0 && f != 5)) {
            return illegal(word);
        }
        return retire(word, reckoned(f, g == 32, a, b));
    }

    /** The other one of f 0 is the difference, of f 5 the shift that keeps the sign. */
    private static int reckoned(int f, boolean other, int a, int b) {
        switch (f) {
            case 0:
                return other ? a - b : a + b;
            case 1:
                return a << (b & 31);
            case 2:
                return a < b ? 1 : 0;
            case 3:
                return belowUnsigned(a, b) ? 1 : 0;
            case 4:
                return a ^ b;
            case 5:
                return other ? a >> (b & 31) : a >>> (b & 31);
            case 6:
                return a | b;
            default:
                return a & b;
        }
    }

    private static long unsigned(int value) {
        return value & 0xFFFFFFFFL;
    }

    private static int product(int f, int a, int b) {
        switch (f) {
            case 0:
                return a * b;
            case 1:
                return (int) ((long) a * b >> 32);
            case 2:
                return (int) (a * unsigned(b) >> 32);
            default:
                return (int) (unsigned(a) * unsigned(b) >> 32);
        }
    }

    /** As 64 bits hold every quotient here, the least number by -1 needs no case of its own. */
    private static int divided(int f, int a, int b) {
        boolean rest = f >= 6;
        if (b == 0) {
            return rest ? a : -1;
        }
        boolean signs = (f & 1) == 0;
        long upper = signs ? a : unsigned(a);
        long lower = signs ? b : unsigned(b);
        return (int) (rest ? upper % lower : upper / lower);
    }

    // Words of the system, and control registers.

    private int system(int word) {
        switch (word) {
            case WORD_CALL:
                return trap(CAUSE_CALL, 0);
            case WORD_BREAK:
                return trap(CAUSE_BREAK, place);
            case WORD_BACK:
                return retireAt(controls.leave());
            case WORD_WAIT:
                waiting = true;
                return retireAt(place + 4);
            default:
                return illegal(word);
        }
    }

    private int control(int word) {
        int f = f(word);
        int way = f & 3;
        int number = word >>> 20;
        boolean writes = way == 1 || s(word) != 0;
        if (way == 0 || !Controls.lists(number) || writes && number >= Controls.FIRST_READ_ONLY) {
            return illegal(word);
        }
        int was = controls.get(number, timer.isDue());
        int v = f < 4 ? a(word) : s(word);
        if (writes) {
            controls.set(number, way == 1 ? v : way == 2 ? was | v : was & ~v);
        }
        return retire(word, was);
    }

    /** MEMORY, held as words so that a large one needs few elements. */
    private static final class Memory {
        private final int[] words;

        /** From LEAST_BYTES to MOST_BYTES; a rest by 4 is left out. */
        Memory(int bytes) {
            words = new int[bytes >> 2];
        }

        boolean holds(int address) {
            return address >= 0 && address >> 2 < words.length;
        }

        /** Without sign; asked only for sizes of 1, 2, 4 at a multiple of the size that is held. */
        int get(int address, int size) {
            return (words[address >> 2] >>> shift(address)) & mask(size);
        }

        void put(int address, int size, int value) {
            int mask = mask(size) << shift(address);
            int others = words[address >> 2] & ~mask;
            words[address >> 2] = others | (value << shift(address)) & mask;
        }

        private static int shift(int address) {
            return (address & 3) * 8;
        }

        private static int mask(int size) {
            return -1 >>> (32 - 8 * size);
        }
    }

    /** TIME and LIMIT. */
    private static final class Timer {
        private static final int TIME_LOWER = 0x0200BFF8, TIME_UPPER = 0x0200BFFC;
        private static final int LIMIT_LOWER = 0x02004000, LIMIT_UPPER = 0x02004004;

        private long time;
        private long limit;

        void restart() {
            time = 0;
            limit = -1;
        }

        void advance() {
            time++;
        }

        boolean isDue() {
            return Long.compareUnsigned(time, limit) >= 0;
        }

        static boolean holds(int address) {
            return address == TIME_LOWER || address == TIME_UPPER || address == LIMIT_LOWER || address == LIMIT_UPPER;
        }

        int half(int address) {
            long whole = isTime(address) ? time : limit;
            return (int) (isUpper(address) ? whole >>> 32 : whole);
        }

        void setHalf(int address, int value) {
            if (isTime(address)) {
                time = withHalf(time, isUpper(address), value);
            } else {
                limit = withHalf(limit, isUpper(address), value);
            }
        }

        private static boolean isTime(int address) {
            return address == TIME_LOWER || address == TIME_UPPER;
        }

        private static boolean isUpper(int address) {
            return address == TIME_UPPER || address == LIMIT_UPPER;
        }

        private static long withHalf(long whole, boolean upper, int value) {
            return upper ? whole & 0xFFFFFFFFL | (long) value << 32 : whole & 0xFFFFFFFF00000000L | unsigned(value);
        }
    }

    /** The PORT. */
    private static final class Port {
        private static final int ADDRESS = 0x10000000;

        private final byte[] bytes;
        private int sent;

        /** From 0 to MOST_SENT. */
        Port(int most) {
            bytes = new byte[most];
        }

        void restart() {
            sent = 0;
        }

        int room() {
            return bytes.length - sent;
        }

        boolean send(int value) {
            if (sent >= bytes.length) {
                return false;
            }
            bytes[sent] = (byte) value;
            sent++;
            return true;
        }

        int byteAt(int i) {
            return i >= 0 && i < sent && i < bytes.length ? bytes[i] & 255 : -1;
        }
    }

    /** The CONTROL REGISTERS, and what a TRAP and the way back do to them. */
    private static final class Controls {
        private static final int MSTATUS = 0x300, MISA = 0x301, MIE = 0x304, MTVEC = 0x305, MSCRATCH = 0x340,
                MEPC = 0x341, MCAUSE = 0x342, MTVAL = 0x343, MIP = 0x344, MHARTID = 0xF14;
        private static final int FIRST_READ_ONLY = 0xC00;
        private static final int BIT_ON = 1 << 3, BIT_WAS_ON = 1 << 7, BIT_TIMER = 1 << 7;
        private static final int MSTATUS_ALWAYS = 0x1800, MISA_ALWAYS = 0x40001100;

        private boolean interruptsOn;
        private boolean interruptsWereOn;
        private int enabled;
        private int vector;
        private int scratch;
        private int wayBack;
        private int cause;
        private int value;

        void restart() {
            interruptsOn = false;
            interruptsWereOn = false;
            enabled = 0;
            vector = 0;
            scratch = 0;
            wayBack = 0;
            cause = 0;
            value = 0;
        }

        static boolean lists(int number) {
            switch (number) {
                case MSTATUS:
                case MISA:
                case MIE:
                case MTVEC:
                case MSCRATCH:
                case MEPC:
                case MCAUSE:
                case MTVAL:
                case MIP:
                case MHARTID:
                    return true;
                default:
                    return false;
            }
        }

        /** The timer is told by the caller, as mip holds nothing itself; asked only for numbers that are listed. */
        int get(int number, boolean timerDue) {
            switch (number) {
                case MSTATUS:
                    return MSTATUS_ALWAYS | (interruptsOn ? BIT_ON : 0) | (interruptsWereOn ? BIT_WAS_ON : 0);
                case MISA:
                    return MISA_ALWAYS;
                case MIE:
                    return enabled;
                case MTVEC:
                    return vector;
                case MSCRATCH:
                    return scratch;
                case MEPC:
                    return wayBack;
                case MCAUSE:
                    return cause;
                case MTVAL:
                    return value;
                case MIP:
                    return timerDue ? BIT_TIMER : 0;
                default:
                    return 0;
            }
        }

        void set(int number, int v) {
            switch (number) {
                case MSTATUS:
                    interruptsOn = (v & BIT_ON) != 0;
                    interruptsWereOn = (v & BIT_WAS_ON) != 0;
                    break;
                case MIE:
                    enabled = v & 0x888;
                    break;
                case MTVEC:
                    vector = v & ~2;
                    break;
                case MSCRATCH:
                    scratch = v;
                    break;
                case MEPC:
                    wayBack = v & ~3;
                    break;
                case MCAUSE:
                    cause = v & 0x8000000F;
                    break;
                case MTVAL:
                    value = v;
                    break;
                default:
                    // misa and mip stay as they are, whatever is written.
                    break;
            }
        }

        boolean timerEnabled() {
            return (enabled & BIT_TIMER) != 0;
        }

        boolean hasOwnEntries() {
            return (vector & 1) != 0;
        }

        /** A TRAP at a place; answers where it goes on. */
        int enter(int place, int newCause, int newValue) {
            wayBack = place;
            cause = newCause;
            value = newValue;
            interruptsWereOn = interruptsOn;
            interruptsOn = false;
            return vector & ~3;
        }

        /** The way back; answers where it goes on. */
        int leave() {
            interruptsOn = interruptsWereOn;
            interruptsWereOn = true;
            return wayBack;
        }
    }
}
