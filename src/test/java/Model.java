import java.math.BigInteger;
import java.util.ArrayList;
import java.util.List;
import java.util.Map;
import java.util.TreeMap;

/**
 * The document again, written another way than the class: MEMORY is a map of bytes, numbers are whole numbers
 * without bounds, offsets are put together from the document's lists of bits. Slow, and for tests alone.
 */
final class Model {
    private static final BigInteger TWO_64 = BigInteger.ONE.shiftLeft(64);

    final Map<Long, Integer> memory = new TreeMap<>();
    final List<Integer> sent = new ArrayList<>();
    final Map<Integer, Integer> control = new TreeMap<>();
    final int port;
    long[] x = new long[32];
    long pc;
    BigInteger time;
    BigInteger limit;
    boolean waits;
    long retired;
    int latest;
    private long next;

    Model(int bytes, int port) {
        int size = bytes < 64 ? 64 : bytes > 65536 ? 65536 : bytes - bytes % 4;
        for (long i = 0; i < size; i++) {
            memory.put(i, 0);
        }
        this.port = port < 0 ? 0 : port > 4096 ? 4096 : port;
        reset();
    }

    void reset() {
        x = new long[32];
        pc = 0;
        for (int number : Asm.LISTED) {
            control.put(number, 0);
        }
        control.put(Asm.MSTATUS, 0x1800);
        control.put(Asm.MISA, 0x40001100);
        time = BigInteger.ZERO;
        limit = TWO_64.subtract(BigInteger.ONE);
        sent.clear();
        waits = false;
        retired = 0;
        latest = 0;
    }

    void tick() {
        time = time.add(BigInteger.ONE).mod(TWO_64);
    }

    int run(int n) {
        int done = 0;
        do {
            if (done == n) {
                break;
            }
            step();
            tick();
            done++;
        } while (latest == RvCore.RETIRED);
        return done;
    }

    int csr(int number) {
        if (number == Asm.MIP) {
            return time.compareTo(limit) >= 0 ? 128 : 0;
        }
        return control.getOrDefault(number, 0);
    }

    private boolean bit(int number, int bit) {
        return (csr(number) >> bit) % 2 != 0;
    }

    /** A TRAP is thrown, so that nothing else is done. */
    private static final class Trap extends RuntimeException {
        private static final long serialVersionUID = 1;
        final int cause;
        final long value;

        Trap(int cause, long value) {
            this.cause = cause;
            this.value = value;
        }
    }

    private static final class Refused extends RuntimeException {
        private static final long serialVersionUID = 1;
    }

    int step() {
        latest = stepped();
        return latest;
    }

    private int stepped() {
        if (bit(Asm.MIP, 7) && bit(Asm.MIE, 7) && bit(Asm.MSTATUS, 3)) {
            waits = false;
            enter(0x80000007, 0);
            pc += bit(Asm.MTVEC, 0) ? 28 : 0;
            pc %= 1L << 32;
            return RvCore.INTERRUPTED;
        }
        if (waits && (csr(Asm.MIP) & csr(Asm.MIE)) == 0) {
            return RvCore.WAITS;
        }
        boolean waited = waits;
        waits = false;
        try {
            next = (pc + 4) % (1L << 32);
            instruct();
            pc = next;
            retired++;
            return RvCore.RETIRED;
        } catch (Trap trap) {
            enter(trap.cause, trap.value);
            return RvCore.TRAPPED;
        } catch (Refused refused) {
            waits = waited;
            return RvCore.REFUSED;
        }
    }

    private void enter(int cause, long value) {
        control.put(Asm.MEPC, (int) pc);
        control.put(Asm.MCAUSE, cause);
        control.put(Asm.MTVAL, (int) value);
        control.put(Asm.MSTATUS, 0x1800 + (bit(Asm.MSTATUS, 3) ? 128 : 0));
        pc = (csr(Asm.MTVEC) & 0xFFFFFFFFL) / 4 * 4;
    }

    private static long signed(long number, int bits) {
        long whole = 1L << bits;
        long within = Math.floorMod(number, whole);
        return within >= whole / 2 ? within - whole : within;
    }

    private static long unsigned(long number) {
        return Math.floorMod(number, 1L << 32);
    }

    /** Bits of a word, from the uppermost on: pairs of the first and the last of a row. */
    private static long row(long word, int... pairs) {
        long made = 0;
        for (int i = 0; i < pairs.length; i += 2) {
            int width = pairs[i] - pairs[i + 1] + 1;
            made = made * (1L << width) + (word >> pairs[i + 1]) % (1L << width);
        }
        return made;
    }

    private void become(long d, long value) {
        if (d != 0) {
            x[(int) d] = unsigned(value);
        }
    }

    private void go(long place) {
        if (unsigned(place) % 4 != 0) {
            throw new Trap(0, unsigned(place));
        }
        next = unsigned(place);
    }

    private long number(long address, int size) {
        long made = 0;
        for (int i = size - 1; i >= 0; i--) {
            made = made * 256 + memory.get(address + i);
        }
        return made;
    }

    private void instruct() {
        if (!memory.containsKey(pc)) {
            throw new Trap(1, pc);
        }
        long word = number(pc, 4);
        int opcode = (int) row(word, 6, 0);
        long d = row(word, 11, 7);
        int f = (int) row(word, 14, 12);
        int s = (int) row(word, 19, 15);
        int t = (int) row(word, 24, 20);
        int g = (int) row(word, 31, 25);
        long i = signed(row(word, 31, 20), 12);
        long a = x[s];
        long b = x[t];
        if (opcode == 0x37) {
            become(d, row(word, 31, 12) * 4096);
        } else if (opcode == 0x17) {
            become(d, pc + row(word, 31, 12) * 4096);
        } else if (opcode == 0x6F) {
            go(pc + signed(2 * row(word, 31, 31, 19, 12, 20, 20, 30, 21), 21));
            become(d, pc + 4);
        } else if (opcode == 0x67 && f == 0) {
            go(unsigned(a + i) / 2 * 2);
            become(d, pc + 4);
        } else if (opcode == 0x63 && f != 2 && f != 3) {
            if (branches(f, a, b)) {
                go(pc + signed(2 * row(word, 31, 31, 7, 7, 30, 25, 11, 8), 13));
            }
        } else if (opcode == 0x03 && f != 3 && f < 6) {
            become(d, read(f, unsigned(a + i)));
        } else if (opcode == 0x23 && f < 3) {
            store(f, unsigned(a + signed(row(word, 31, 25, 11, 7), 12)), b);
        } else if (opcode == 0x13 && (f != 1 && f != 5 || g == 0 || f == 5 && g == 32)) {
            become(d, reckon(f, f == 5 ? g : 0, a, unsigned(i)));
        } else if (opcode == 0x33 && (g < 2 || g == 32 && (f == 0 || f == 5))) {
            become(d, g == 1 ? multiply(f, a, b) : reckon(f, g, a, b));
        } else if (opcode == 0x73) {
            system(word, d, f, s);
        } else if (opcode != 0x0F || f != 0) {
            throw new Trap(2, word);
        }
    }

    private static boolean branches(int f, long a, long b) {
        switch (f) {
            case 0: return a == b;
            case 1: return a != b;
            case 4: return signed(a, 32) < signed(b, 32);
            case 5: return signed(a, 32) >= signed(b, 32);
            case 6: return a < b;
            default: return a >= b;
        }
    }

    private static long reckon(int f, int g, long a, long b) {
        long power = 1L << (b % 32);
        switch (f) {
            case 0: return g == 32 ? a - b : a + b;
            case 1: return unsigned(a * power);
            case 2: return signed(a, 32) < signed(b, 32) ? 1 : 0;
            case 3: return a < b ? 1 : 0;
            case 4: return a ^ b;
            case 5: return g == 32 ? Math.floorDiv(signed(a, 32), power) : a / power;
            case 6: return a | b;
            default: return a & b;
        }
    }

    private static long multiply(int f, long a, long b) {
        BigInteger p = BigInteger.valueOf(f == 0 || f == 1 || f == 2 || f == 4 || f == 6 ? signed(a, 32) : a);
        BigInteger q = BigInteger.valueOf(f == 0 || f == 1 || f == 4 || f == 6 ? signed(b, 32) : b);
        if (f == 0) {
            return p.multiply(q).longValue();
        }
        if (f < 4) {
            return p.multiply(q).shiftRight(32).longValue();
        }
        if (b == 0) {
            return f < 6 ? -1 : a;
        }
        return f < 6 ? p.divide(q).longValue() : p.remainder(q).longValue();
    }

    private static int size(int f) {
        return f % 4 == 0 ? 1 : f % 4 == 1 ? 2 : 4;
    }

    private long read(int f, long address) {
        int size = size(f);
        if (address % size != 0) {
            throw new Trap(4, address);
        }
        if (memory.containsKey(address)) {
            long number = number(address, size);
            return f < 2 ? signed(number, 8 * size) : number;
        }
        if (size == 4) {
            if (address == 0x0200BFF8L) {
                return time.intValue();
            } else if (address == 0x0200BFFCL) {
                return time.shiftRight(32).intValue();
            } else if (address == 0x02004000L) {
                return limit.intValue();
            } else if (address == 0x02004004L) {
                return limit.shiftRight(32).intValue();
            } else if (address == 0x10000000L) {
                return port - sent.size();
            }
        }
        throw new Trap(5, address);
    }

    private static BigInteger halves(long upper, long lower) {
        return BigInteger.valueOf(unsigned(upper)).shiftLeft(32).add(BigInteger.valueOf(unsigned(lower)));
    }

    private void store(int f, long address, long b) {
        int size = size(f);
        if (address % size != 0) {
            throw new Trap(6, address);
        }
        if (memory.containsKey(address)) {
            for (int i = 0; i < size; i++) {
                memory.put(address + i, (int) (b >> (8 * i)) & 255);
            }
        } else if (address == 0x10000000L) {
            if (sent.size() == port) {
                throw new Refused();
            }
            sent.add((int) (b % 256));
        } else if (size == 4 && address == 0x0200BFF8L) {
            time = halves(time.shiftRight(32).longValue(), b);
        } else if (size == 4 && address == 0x0200BFFCL) {
            time = halves(b, time.longValue());
        } else if (size == 4 && address == 0x02004000L) {
            limit = halves(limit.shiftRight(32).longValue(), b);
        } else if (size == 4 && address == 0x02004004L) {
            limit = halves(b, limit.longValue());
        } else {
            throw new Trap(7, address);
        }
    }

    private void system(long word, long d, int f, int s) {
        if (word == 0x73) {
            throw new Trap(11, 0);
        } else if (word == 0x100073) {
            throw new Trap(3, pc);
        } else if (word == 0x30200073) {
            next = unsigned(csr(Asm.MEPC));
            control.put(Asm.MSTATUS, 0x1880 + (bit(Asm.MSTATUS, 7) ? 8 : 0));
        } else if (word == 0x10500073) {
            waits = true;
        } else if (f % 4 == 0) {
            throw new Trap(2, word);
        } else {
            change(word, d, f, s);
        }
    }

    private void change(long word, long d, int f, int s) {
        int number = (int) row(word, 31, 20);
        boolean writes = f == 1 || f == 5 || s != 0;
        if (!control.containsKey(number) || number >= 0xC00 && writes) {
            throw new Trap(2, word);
        }
        int was = csr(number);
        int v = f < 4 ? (int) x[s] : s;
        become(d, was);
        if (writes) {
            int now = f % 4 == 1 ? v : f % 4 == 2 ? was | v : was & ~v;
            keep(number, now);
        }
    }

    private void keep(int number, int now) {
        if (number == Asm.MSTATUS) {
            control.put(number, now & 0x88 | 0x1800);
        } else if (number == Asm.MIE) {
            control.put(number, now & 0x888);
        } else if (number == Asm.MTVEC) {
            control.put(number, now & 0xFFFFFFFD);
        } else if (number == Asm.MEPC) {
            control.put(number, now & 0xFFFFFFFC);
        } else if (number == Asm.MCAUSE) {
            control.put(number, now & 0x8000000F);
        } else if (number == Asm.MSCRATCH || number == Asm.MTVAL) {
            control.put(number, now);
        }
    }
}
