/** The edges of promises 1 to 5 and 8 to 14, sentence by sentence. */
public final class CallEdgeTest {
    private static final int MIN = Integer.MIN_VALUE, MAX = Integer.MAX_VALUE;

    public static void main(String[] args) {
        usedForSoManyCalls();
        sizes();
        roundedDown();
        allZero();
        portSizes();
        asBehindReset();
        resets();
        resetsAlwaysOnes();
        resetsTheTimer();
        resetsThePort();
        resetsWaiting();
        memoryStays();
        pokes();
        pokesInMemory();
        loads();
        loadsAllOrNone();
        peeks();
        peeksOutside();
        ticks();
        registers();
        place();
        controls();
        tellsTimeAndLimit();
        tellsRetired();
        tellsWaiting();
        tellsTheLatest();
        tellsNothingElse();
        sizeOfWhatWasSent();
        bytesSent();
        noByte();
        Due.end();
    }

    private static void usedForSoManyCalls() {
        Due.sentence("An object is used for at most 512 calls after it has been made");
        RvCore core = new RvCore(64, 0);
        for (int call = 1; call <= 511; call++) {
            core.tick();
        }
        Due.due("told(0), the 512th call", core.told(0), 511);
        core = new Program().add(Asm.addi(1, 1, 1), Asm.j(0, -4)).on(64, 0);
        for (int call = 3; call <= 511; call++) {
            Due.due("run(1000), call " + call, core.run(1000), 1000);
        }
        Due.due("told(2), the 512th call", core.told(2), 509000);
    }

    private static void size(int bytes, int due) {
        RvCore core = new RvCore(bytes, 0);
        Due.due("peek of the last of " + bytes, core.peek(due - 1), 0);
        Due.due("peek behind the last of " + bytes, core.peek(due), -1);
        Due.due("poke of the last of " + bytes, core.poke(due - 1, 9), true);
        Due.due("poke behind the last of " + bytes, core.poke(due, 9), false);
        Due.due("load at the end of " + bytes, core.load(due - 4, 1), true);
        Due.due("load one later of " + bytes, core.load(due - 3, 1), false);
    }

    private static void sizes() {
        Due.sentence("MEMORY of so many bytes (64 .. 65536, the nearest");
        size(MIN, 64);
        size(-1, 64);
        size(0, 64);
        size(1, 64);
        size(63, 64);
        size(64, 64);
        size(68, 68);
        size(65532, 65532);
        size(65536, 65536);
        size(65537, 65536);
        size(65540, 65536);
        size(MAX, 65536);
    }

    private static void roundedDown() {
        Due.sentence("a multiple of 4, rounded down");
        size(65, 64);
        size(66, 64);
        size(67, 64);
        size(69, 68);
        size(4095, 4092);
        size(65533, 65532);
        size(65535, 65532);
    }

    private static void allZero() {
        Due.sentence("all 0; the PORT");
        RvCore core = new RvCore(500, 0);
        for (int i = 0; i < 500; i++) {
            Due.due("peek(" + i + ")", core.peek(i), 0);
        }
        Due.due("peek(65535)", new RvCore(65536, 0).peek(65535), 0);
        // A word of 0s is ILLEGAL, so a new object traps at once.
        core = new RvCore(64, 0);
        Due.due("step()", core.step(), RvCore.TRAPPED);
        Due.due("mcause", core.csr(Asm.MCAUSE), 2);
        Due.due("mtval", core.csr(Asm.MTVAL), 0);
    }

    private static void takes(int port, int due) {
        RvCore core = new Program().set(1, Asm.PORT).add(Asm.read(2, 3, 1, 0), Asm.s(0, 1, 1, 0), Asm.j(0, -4))
                .on(64, port);
        core.run(100000);
        Due.due("room of a PORT of " + port, core.reg(3), due);
        Due.due("what ends it, a PORT of " + port, core.told(4), RvCore.REFUSED);
        Due.due("how many a PORT of " + port + " takes", core.outSize(), due);
    }

    private static void portSizes() {
        Due.sentence("the PORT takes so many (0 .. 4096, the nearest)");
        takes(MIN, 0);
        takes(-1, 0);
        takes(0, 0);
        takes(1, 1);
        takes(4095, 4095);
        takes(4096, 4096);
        takes(4097, 4096);
        takes(MAX, 4096);
    }

    private static void asBehindReset() {
        Due.sentence("All is as behind reset().");
        RvCore core = new RvCore(64, 3);
        Fresh.look(core);
        State before = new State(core);
        core.reset();
        before.stays(core, "behind reset() of a new object");
    }

    /** Every register and every control register holds something; it WAITS, and its PORT of one byte is full. */
    private static RvCore used() {
        Program program = new Program().control(Asm.MSTATUS, -1).control(Asm.MIE, 0x808).control(Asm.MTVEC, -1)
                .control(Asm.MSCRATCH, -1).control(Asm.MEPC, -1).control(Asm.MCAUSE, -1).control(Asm.MTVAL, -1)
                .timer(Asm.LIMIT, 5).timer(Asm.TIME, -9).store(Asm.PORT, 77);
        for (int d = 1; d < 32; d++) {
            program.set(d, -d);
        }
        return program.add(Asm.WAIT).doneOn(1024, 1);
    }

    private static void resets() {
        Due.sentence("PC, REGISTERS, control registers");
        RvCore core = used();
        Due.due("pc() before", core.pc(), 436);
        core.reset();
        Due.due("pc()", core.pc(), 0);
        for (int i = 0; i < 32; i++) {
            Due.due("reg(" + i + ")", core.reg(i), 0);
        }
        int[] numbers = {Asm.MIE, Asm.MTVEC, Asm.MSCRATCH, Asm.MEPC, Asm.MCAUSE, Asm.MTVAL, Asm.MIP, Asm.MHARTID};
        for (int number : numbers) {
            Due.due("csr(" + number + ")", core.csr(number), 0);
        }
    }

    private static void resetsAlwaysOnes() {
        Due.sentence("control registers (those bits that are not always 1)");
        RvCore core = used();
        Due.due("mstatus before", core.csr(Asm.MSTATUS), 0x1888);
        core.reset();
        Due.due("mstatus", core.csr(Asm.MSTATUS), 0x1800);
        Due.due("misa", core.csr(Asm.MISA), 0x40001100);
    }

    private static void resetsTheTimer() {
        Due.sentence("TIME are 0, LIMIT all 1s");
        RvCore core = used();
        Due.due("mip before", core.csr(Asm.MIP), 0x80);
        core.reset();
        Due.due("told(0)", core.told(0), 0);
        Due.due("told(1)", core.told(1), -1);
        Due.due("mip", core.csr(Asm.MIP), 0);
    }

    private static void resetsThePort() {
        Due.sentence("the PORT has sent nothing");
        RvCore core = used();
        Due.due("outSize() before", core.outSize(), 1);
        Due.due("out(0) before", core.out(0), 77);
        core.reset();
        Due.due("outSize()", core.outSize(), 0);
        Due.due("out(0)", core.out(0), -1);
        // All of its room is there again.
        Due.due("run(200)", core.run(200), 110);
        Due.due("outSize() again", core.outSize(), 1);
        Due.due("out(0) again", core.out(0), 77);
    }

    private static void resetsWaiting() {
        Due.sentence("nothing WAITS. MEMORY");
        RvCore core = used();
        Due.due("told(3) before", core.told(3), 1);
        core.reset();
        Due.due("told(3)", core.told(3), 0);
        Due.due("step()", core.step(), RvCore.RETIRED);
    }

    private static void memoryStays() {
        Due.sentence("MEMORY stays.");
        RvCore core = new Program().set(2, 0xA1B2C3D4).add(Asm.s(2, 0, 2, 60)).doneOn(64, 0);
        core.poke(50, 200);
        core.load(52, 0x01020304);
        int[] before = new int[64];
        for (int i = 0; i < 64; i++) {
            before[i] = core.peek(i);
        }
        Due.due("peek(60) before", before[60], 0xD4);
        Due.due("peek(50) before", before[50], 200);
        core.reset();
        for (int i = 0; i < 64; i++) {
            Due.due("peek(" + i + ")", core.peek(i), before[i]);
        }
    }

    private static void pokes() {
        Due.sentence("The lowest 8 bits of b come to an address");
        // Of each row: b, what comes.
        int[][] rows = {{0, 0}, {1, 1}, {127, 127}, {128, 128}, {255, 255}, {256, 0}, {257, 1}, {-1, 255}, {-128, 128},
                {-256, 0}, {MIN, 0}, {MAX, 255}};
        RvCore core = new RvCore(64, 0);
        core.load(8, 0x5A5A5A5A);
        for (int[] row : rows) {
            for (int at = 9; at < 11; at++) {
                Due.due("poke(" + at + ", " + row[0] + ")", core.poke(at, row[0]), true);
                Due.due("peek(" + at + ") behind " + row[0], core.peek(at), row[1]);
            }
            Due.due("peek(8)", core.peek(8), 0x5A);
            Due.due("peek(11)", core.peek(11), 0x5A);
        }
    }

    private static void pokesInMemory() {
        Due.sentence("whether it is in MEMORY.");
        int[] inside = {0, 1, 3, 4, 62, 63};
        int[] outside = {64, 65, 68, 65536, -1, -4, -64, MIN, MIN + 1, MAX};
        RvCore core = new RvCore(64, 0);
        for (int place : inside) {
            Due.due("poke(" + place + ")", core.poke(place, 7), true);
            Due.due("peek(" + place + ")", core.peek(place), 7);
        }
        core = new RvCore(64, 0);
        for (int place : outside) {
            Due.due("poke(" + place + ")", core.poke(place, 7), false);
        }
        for (int i = 0; i < 64; i++) {
            Due.due("peek(" + i + ") behind what is outside", core.peek(i), 0);
        }
    }

    private static void loads() {
        Due.sentence("Four bytes, the lowest first, likewise");
        int[] places = {0, 1, 2, 3, 57, 58, 59, 60};
        for (int place : places) {
            RvCore core = new RvCore(64, 0);
            for (int i = 0; i < 64; i++) {
                core.poke(i, 0x5A);
            }
            Due.due("load(" + place + ")", core.load(place, 0xFE80017F), true);
            int[] due = {0x7F, 0x01, 0x80, 0xFE};
            for (int i = 0; i < 64; i++) {
                boolean comes = i >= place && i < place + 4;
                Due.due("peek(" + i + ") behind load(" + place + ")", core.peek(i), comes ? due[i - place] : 0x5A);
            }
        }
    }

    private static void loadsAllOrNone() {
        Due.sentence("whether all are in MEMORY (else none comes).");
        int[] places = {61, 62, 63, 64, 65, -1, -2, -3, -4, -5, MIN, MIN + 1, MAX, MAX - 1, MAX - 2, MAX - 3, MAX - 4};
        RvCore core = new RvCore(64, 0);
        for (int place : places) {
            Due.due("load(" + place + ")", core.load(place, -1), false);
        }
        for (int i = 0; i < 64; i++) {
            Due.due("peek(" + i + ") behind what does not fit", core.peek(i), 0);
        }
        core = new RvCore(65536, 0);
        Due.due("load(65532)", core.load(65532, -1), true);
        for (int place = 65533; place < 65537; place++) {
            Due.due("load(" + place + ")", core.load(place, 0), false);
        }
        for (int place = 65532; place < 65536; place++) {
            Due.due("peek(" + place + ")", core.peek(place), 255);
        }
    }

    private static void peeks() {
        Due.sentence("A byte; -1: not in MEMORY.");
        RvCore core = new RvCore(64, 0);
        core.load(0, 0xFF807F00);
        int[] due = {0, 0x7F, 0x80, 0xFF};
        for (int i = 0; i < 4; i++) {
            Due.due("peek(" + i + ")", core.peek(i), due[i]);
        }
        core.poke(63, -1);
        Due.due("peek(63)", core.peek(63), 255);
    }

    private static void peeksOutside() {
        Due.sentence("-1: not in MEMORY.");
        int[] places = {64, 65, 68, 65536, -1, -4, -64, MIN, MIN + 1, MAX};
        RvCore core = new RvCore(64, 0);
        for (int place : places) {
            Due.due("peek(" + place + ")", core.peek(place), -1);
        }
        Due.due("peek(65536) of the largest", new RvCore(65536, 0).peek(65536), -1);
    }

    private static void ticks() {
        Due.sentence("TIME is one more (64 bits, runs over).");
        // Of each row: TIME before and behind.
        long[][] rows = {{0, 1}, {0x7FFFFFFFL, 0x80000000L}, {0xFFFFFFFFL, 0x100000000L},
                {Long.MAX_VALUE, Long.MIN_VALUE}, {-2, -1}, {-1, 0}};
        for (long[] row : rows) {
            RvCore core = new Program().timer(Asm.TIME, row[0]).steppedOn(64, 0);
            Due.due("told(0) before", core.told(0), row[0]);
            core.tick();
            Due.due("told(0) behind", core.told(0), row[1]);
            Due.due("told(1) behind", core.told(1), -1);
            Due.due("told(2) behind", core.told(2), 10);
            Due.due("pc() behind", core.pc(), 40);
        }
    }

    private static void registers() {
        Due.sentence("x[i], i modulo 32.");
        Program program = new Program();
        for (int d = 1; d < 32; d++) {
            program.set(d, 100 + d);
        }
        RvCore core = program.doneOn(256, 0);
        int[][] rows = {{0, 0}, {1, 101}, {31, 131}, {32, 0}, {33, 101}, {63, 131}, {64, 0}, {-1, 131}, {-31, 101},
                {-32, 0}, {-33, 131}, {MAX, 131}, {MAX - 31, 0}, {MIN, 0}, {MIN + 1, 101}, {MIN + 31, 131}};
        for (int[] row : rows) {
            Due.due("reg(" + row[0] + ")", core.reg(row[0]), row[1]);
        }
    }

    private static void place() {
        Due.sentence("PC.");
        RvCore core = new RvCore(64, 0);
        Due.due("pc() at first", core.pc(), 0);
        int[] places = {0, 4, 60, 64, 0x7FFFFFFC, 0x80000000, 0xFFFFFFFC};
        for (int place : places) {
            core = new Program().set(1, place).add(Asm.jalr(0, 1, 0)).doneOn(64, 0);
            Due.due("pc()", core.pc(), place);
            core.tick();
            Due.due("pc() behind tick()", core.pc(), place);
        }
    }

    private static void controls() {
        Due.sentence("A control register; 0: it is not listed.");
        RvCore core = new Program().control(Asm.MSCRATCH, -1).control(Asm.MTVAL, -1).control(Asm.MIE, -1)
                .control(Asm.MTVEC, -1).doneOn(64, 0);
        Due.due("csr(0x340)", core.csr(0x340), -1);
        Due.due("csr(0x343)", core.csr(0x343), -1);
        Due.due("csr(0x304)", core.csr(0x304), 0x888);
        Due.due("csr(0x305)", core.csr(0x305), 0xFFFFFFFD);
        int[] others = {0, 1, -1, 0x2FF, 0x302, 0x303, 0x306, 0x33F, 0x345, 0xC00, 0xF13, 0xF15, 0xFFF, 0x1000,
                0x1300, 0x1340, 0x340 - 0x1000, 0x340 | MIN, 0x340 + 0x10000, MIN, MAX};
        for (int number : others) {
            Due.due("csr(" + number + ")", core.csr(number), 0);
        }
        // Not listed is 0 to the caller, where it would be ILLEGAL to an instruction.
        Due.due("told(4)", core.told(4), RvCore.RETIRED);
        Due.due("mcause", core.csr(Asm.MCAUSE), 0);
    }

    private static void tellsTimeAndLimit() {
        Due.sentence("TIME (which = 0), LIMIT (1)");
        RvCore core = new RvCore(64, 0);
        Due.due("told(0) at first", core.told(0), 0);
        Due.due("told(1) at first", core.told(1), -1);
        core = new Program().timer(Asm.TIME, Long.MIN_VALUE + 1).timer(Asm.LIMIT, 0xFEDCBA9876543210L)
                .steppedOn(128, 0);
        Due.due("told(0)", core.told(0), Long.MIN_VALUE + 1);
        Due.due("told(1)", core.told(1), 0xFEDCBA9876543210L);
    }

    private static void tellsRetired() {
        Due.sentence("how many instructions were RETIRED since reset() (2)");
        RvCore core = new Program().set(1, Asm.PORT).add(Asm.WAIT, Asm.s(0, 1, 1, 0)).on(64, 0);
        Due.due("told(2) at first", core.told(2), 0);
        Due.due("run(3)", core.run(3), 3);
        Due.due("told(2)", core.told(2), 3);
        Due.due("step()", core.step(), RvCore.WAITS);
        Due.due("told(2): WAITS is none", core.told(2), 3);
        core.reset();
        Due.due("told(2) behind reset()", core.told(2), 0);
        core.load(8, Asm.FENCE);
        Due.due("run(9)", core.run(9), 4);
        Due.due("told(2): REFUSED is none", core.told(2), 3);
        core.load(12, 0);
        Due.due("step()", core.step(), RvCore.TRAPPED);
        Due.due("told(2): TRAPPED is none", core.told(2), 3);
        core = new Program().timer(Asm.LIMIT, 0).control(Asm.MIE, -1).control(Asm.MSTATUS, 8).doneOn(64, 0);
        Due.due("step()", core.step(), RvCore.INTERRUPTED);
        Due.due("told(2): INTERRUPTED is none", core.told(2), 16);
    }

    private static void tellsWaiting() {
        Due.sentence("whether it WAITS (3)");
        RvCore core = new Program().add(Asm.FENCE, Asm.WAIT).on(64, 0);
        Due.due("told(3) at first", core.told(3), 0);
        core.step();
        Due.due("told(3) before WAIT", core.told(3), 0);
        core.step();
        Due.due("told(3) behind WAIT", core.told(3), 1);
        core.step();
        Due.due("told(3) while it WAITS", core.told(3), 1);
    }

    private static void tellsTheLatest() {
        Due.sentence("what the latest step gave, also within run() (4; 0 before any).");
        RvCore core = new Program().add(Asm.FENCE, Asm.CALL).on(64, 0);
        Due.due("told(4) before any", core.told(4), 0);
        core.tick();
        core.run(0);
        core.run(-1);
        Due.due("told(4) still before any", core.told(4), 0);
        core.run(2);
        Due.due("told(4) behind a trap in run()", core.told(4), RvCore.TRAPPED);
        core.run(0);
        core.run(-1);
        core.run(100001);
        core.tick();
        core.poke(40, 1);
        Due.due("told(4): the other calls are no steps", core.told(4), RvCore.TRAPPED);
        core.step();
        Due.due("told(4) behind step()", core.told(4), RvCore.RETIRED);
        core.step();
        Due.due("told(4) behind a trap", core.told(4), RvCore.TRAPPED);
        core.reset();
        Due.due("told(4) behind reset(), as in a new object", core.told(4), 0);
    }

    private static void tellsNothingElse() {
        Due.sentence("0 for others.");
        RvCore core = used();
        Due.due("step()", core.step(), RvCore.WAITS);
        int[] others = {-1, -2, 5, 6, 8, 32, 256, 0x100, 0x10000, MIN, MIN + 1, MIN + 4, MAX};
        for (int which : others) {
            Due.due("told(" + which + ")", core.told(which), 0);
        }
    }

    private static void sizeOfWhatWasSent() {
        Due.sentence("How many bytes the PORT has sent.");
        RvCore core = new Program().set(1, Asm.PORT).add(Asm.s(0, 1, 1, 0), Asm.s(1, 1, 1, 0), Asm.s(2, 1, 1, 0))
                .on(64, 2);
        Due.due("outSize() at first", core.outSize(), 0);
        core.run(2);
        int[] due = {1, 2, 2, 2};
        for (int size : due) {
            core.step();
            // Two and four bytes that are stored send one; a refused one counts nothing.
            Due.due("outSize()", core.outSize(), size);
        }
        core.reset();
        Due.due("outSize() behind reset()", core.outSize(), 0);
    }

    private static void bytesSent() {
        Due.sentence("Byte i of these");
        int[] bytes = {0, 0x7F, 0x80, 0xFF, 1};
        Program program = new Program().set(1, Asm.PORT);
        for (int b : bytes) {
            program.add(Asm.addi(2, 0, b), Asm.s(0, 1, 2, 0));
        }
        RvCore core = program.doneOn(64, 5);
        for (int i = 0; i < bytes.length; i++) {
            Due.due("out(" + i + ")", core.out(i), bytes[i]);
        }
    }

    private static void noByte() {
        Due.sentence("-1: there is none.");
        RvCore core = new Program().store(Asm.PORT, 65).on(64, 4);
        Due.due("out(0) at first", core.out(0), -1);
        core.run(5);
        Due.due("out(0)", core.out(0), 65);
        int[] others = {1, 2, 3, 4, 5, 4096, -1, -2, MIN, MAX};
        for (int i : others) {
            Due.due("out(" + i + ")", core.out(i), -1);
        }
        core.reset();
        Due.due("out(0) behind reset()", core.out(0), -1);
        core = new RvCore(64, 0);
        Due.due("out(0) of a PORT of 0", core.out(0), -1);
        core = new Program().store(Asm.PORT, 65).doneOn(64, 1);
        Due.due("out(0) of a full PORT", core.out(0), 65);
        Due.due("out(1) of a full PORT", core.out(1), -1);
    }
}
