/** The edges of opcode 0x73 and of CONTROL REGISTERS, sentence by sentence. */
public final class ControlEdgeTest {
    public static void main(String[] args) {
        systemWords();
        goesBack();
        waits();
        numbersOfRegisters();
        changes();
        numbersOfS();
        fromItsOwnRegister();
        writesNothing();
        notListed();
        readOnly();
        mstatus();
        misa();
        mie();
        mtvec();
        mscratch();
        mepc();
        mcause();
        mtval();
        mip();
        mipWritten();
        mhartid();
        Due.end();
    }

    private static void systemWords() {
        Due.sentence("0x73: the words 0x73 CALL, 0x100073 BREAK, 0x30200073 BACK");
        One.trapped("CALL", 0x73, 5, 7, 11, 0);
        One.trapped("BREAK", 0x100073, 5, 7, 3, One.PLACE);
        // A bit more or less in d, f, s, t or g makes another word of it.
        int[] words = {0x73, 0x100073, 0x30200073, 0x10500073};
        for (int word : words) {
            One.illegal(word | 1 << 7);
            One.illegal(word | 1 << 11);
            One.illegal(word | 4 << 12);
            One.illegal(word | 1 << 15);
            One.illegal(word | 1 << 19);
            One.illegal(word | 1 << 31);
        }
        int[] near = {0x00200073, 0x00300073, 0x30000073, 0x30100073, 0x30300073, 0x10200073, 0x10400073, 0x10600073,
                0x00500073, 0x20500073};
        for (int word : near) {
            One.illegal(word);
        }
    }

    private static void goesBack() {
        Due.sentence("BACK: PC becomes mepc, MIE what MPIE is, MPIE 1");
        // Of each row: mstatus before and behind.
        int[][] rows = {{0x00, 0x1880}, {0x08, 0x1880}, {0x80, 0x1888}, {0x88, 0x1888}};
        int[] places = {0, 4, 0xFFFFFFFC, 0x80000000};
        for (int[] row : rows) {
            for (int place : places) {
                RvCore core = new Program().control(Asm.MEPC, place).control(Asm.MSTATUS, row[0]).add(Asm.BACK)
                        .readyOn(64, 0);
                Due.due("step() of BACK", core.step(), RvCore.RETIRED);
                Due.due("pc()", core.pc(), place);
                Due.due("mstatus behind " + row[0], core.csr(Asm.MSTATUS), row[1]);
                Due.due("mepc", core.csr(Asm.MEPC), place);
                Due.due("told(2)", core.told(2), 7);
            }
        }
        // Without a trap before it, the way back leads to 0.
        RvCore core = new Program().add(Asm.FENCE, Asm.BACK).doneOn(64, 0);
        Due.due("pc() without a trap", core.pc(), 0);
    }

    private static void waits() {
        Due.sentence("0x10500073: it WAITS from then on.");
        RvCore core = One.ready(0x10500073, 0, 0);
        Due.due("told(3) before", core.told(3), 0);
        One.retires(core, "WAIT");
        Due.due("pc()", core.pc(), One.PLACE + 4);
        Due.due("told(3) behind", core.told(3), 1);
        Due.due("step() behind", core.step(), RvCore.WAITS);
        Due.due("told(3) behind step()", core.told(3), 1);
    }

    private static void numbersOfRegisters() {
        Due.sentence("0x73, f 1, 2, 3, 5, 6, 7: a control register (bits 20 .. 31)");
        // Written out, x1 being 0x88: the first and the last that are listed, and one with bit 31 of the word.
        RvCore core = One.ready(0x300091F3, 0x88, 0);
        One.retires(core, "f 1 on 0x300");
        Due.due("x3", core.reg(3), 0x1800);
        Due.due("mstatus", core.csr(0x300), 0x1888);
        core = One.ready(0x340091F3, 0x88, 0);
        One.retires(core, "f 1 on 0x340");
        Due.due("x3", core.reg(3), 0);
        Due.due("mscratch", core.csr(0x340), 0x88);
        One.gives("f 2 on 0xF14", 0xF14021F3, 0x88, 0, 0);
        One.gives("f 7 on 0x301", 0x301071F3, 0x88, 0, 0x40001100);
        One.gives("f 6 on 0x305", 0x305061F3, 0x88, 0, One.ENTRY);
        One.gives("f 3 on 0x305", 0x305031F3, 0x88, 0, One.ENTRY);
        One.gives("f 5 on 0x305", 0x3053D1F3, 0x88, 0, One.ENTRY);
    }

    private static RvCore changed(int f, int number, int first, int v, int s) {
        return new Program().control(number, first).set(1, v).set(3, One.KEPT).add(Asm.control(f, 3, s, number))
                .doneOn(64, 0);
    }

    private static void changes() {
        Due.sentence("d becomes what it was; it becomes v (f 1, 5), it or v (2, 6), it without the bits of v (3, 7)");
        // Of each row: f, what it was, v, what it becomes.
        int[][] rows = {{1, 0, -1, -1}, {1, -1, 0, 0}, {1, 0x0F0F, 0x00FF, 0x00FF}, {2, 0, -1, -1}, {2, -1, 0, -1},
                {2, 0x0F0F, 0x00FF, 0x0FFF}, {3, -1, -1, 0}, {3, 0, -1, 0}, {3, -1, 0, -1},
                {3, 0x0F0F, 0x00FF, 0x0F00}};
        for (int[] row : rows) {
            RvCore core = changed(row[0], Asm.MSCRATCH, row[1], row[2], 1);
            String text = "f " + row[0] + " with " + row[1] + ", " + row[2];
            Due.due("x3 behind " + text, core.reg(3), row[1]);
            Due.due("mscratch behind " + text, core.csr(Asm.MSCRATCH), row[3]);
        }
        One.illegal(Asm.control(4, 3, 1, Asm.MSCRATCH));
        One.illegal(Asm.control(4, 3, 0, Asm.MSCRATCH));
        One.illegal(Asm.control(0, 3, 1, Asm.MSCRATCH));
    }

    private static void numbersOfS() {
        Due.sentence("v is a, from 5 on the number s.");
        // Of each row: f, what it was, s, what it becomes. x1 .. x31 are no part of it.
        int[][] rows = {{5, -1, 0, 0}, {5, -1, 1, 1}, {5, -1, 31, 31}, {5, 0, 16, 16}, {6, 0, 31, 31}, {6, 0, 1, 1},
                {6, 0x100, 31, 0x11F}, {7, -1, 31, 0xFFFFFFE0}, {7, -1, 1, -2}, {7, 0, 31, 0}};
        for (int[] row : rows) {
            RvCore core = changed(row[0], Asm.MSCRATCH, row[1], 0x5555, row[2]);
            String text = "f " + row[0] + " with " + row[1] + ", " + row[2];
            Due.due("x3 behind " + text, core.reg(3), row[1]);
            Due.due("mscratch behind " + text, core.csr(Asm.MSCRATCH), row[3]);
        }
        RvCore core = changed(1, Asm.MSCRATCH, 9, 0x5555, 1);
        Due.due("mscratch behind f 1", core.csr(Asm.MSCRATCH), 0x5555);
        core = changed(1, Asm.MSCRATCH, 9, 0x5555, 0);
        Due.due("mscratch behind f 1 with x0", core.csr(Asm.MSCRATCH), 0);
    }

    private static void fromItsOwnRegister() {
        Due.sentence("d becomes what it was; it becomes v");
        for (int f = 1; f < 4; f++) {
            RvCore core = new Program().control(Asm.MSCRATCH, 0x0F).set(1, 0x11).add(Asm.control(f, 1, 1, Asm.MSCRATCH))
                    .doneOn(64, 0);
            Due.due("x1 behind f " + f, core.reg(1), 0x0F);
            Due.due("mscratch behind f " + f, core.csr(Asm.MSCRATCH), f == 1 ? 0x11 : f == 2 ? 0x1F : 0x0E);
        }
        // mip's bit is read as it is at that moment, and written nowhere.
        RvCore core = new Program().timer(Asm.LIMIT, 0).add(Asm.control(1, 3, 0, Asm.MIP)).doneOn(64, 0);
        Due.due("x3", core.reg(3), 0x80);
        Due.due("mip", core.csr(Asm.MIP), 0x80);
    }

    private static void writesNothing() {
        Due.sentence("2, 3, 6, 7 with s 0 write nothing.");
        int[] ways = {2, 3, 6, 7};
        for (int f : ways) {
            RvCore core = changed(f, Asm.MSCRATCH, 0x1234, 0, 0);
            Due.due("x3 behind f " + f, core.reg(3), 0x1234);
            Due.due("mscratch behind f " + f, core.csr(Asm.MSCRATCH), 0x1234);
            // Where writing is ILLEGAL, writing nothing is not.
            One.gives("f " + f + " on mhartid", Asm.control(f, 3, 0, Asm.MHARTID), 5, 7, 0);
        }
        // s is meant, not what x[s] holds.
        for (int f = 2; f < 4; f++) {
            int word = Asm.control(f, 3, 1, Asm.MHARTID);
            One.trapped("f " + f + " on mhartid, x1 being 0", word, 0, 0, 2, word);
        }
    }

    private static void notListed() {
        Due.sentence("so is a control register that is not listed");
        int[] numbers = {0, 1, 0x100, 0x2FF, 0x302, 0x303, 0x306, 0x307, 0x33F, 0x345, 0x346, 0x740, 0xB00, 0xBFF,
                0xC00, 0xC01, 0xF11, 0xF12, 0xF13, 0xF15, 0xFFF};
        for (int number : numbers) {
            for (int f = 1; f < 8; f++) {
                if (f != 4) {
                    One.illegal(Asm.control(f, 3, 1, number));
                    One.illegal(Asm.control(f, 3, 0, number));
                    One.illegal(Asm.control(f, 0, 0, number));
                }
            }
        }
    }

    private static void readOnly() {
        Due.sentence("and writing those from 0xC00 on.");
        int[] ways = {1, 2, 3, 5, 6, 7};
        for (int f : ways) {
            One.illegal(Asm.control(f, 3, 1, Asm.MHARTID));
            One.illegal(Asm.control(f, 0, 31, Asm.MHARTID));
        }
        // f 1, 5 write even with s 0.
        One.illegal(Asm.control(1, 3, 0, Asm.MHARTID));
        One.illegal(Asm.control(5, 3, 0, Asm.MHARTID));
        // The last that is listed below 0xC00 may be written, if to no effect.
        One.gives("writing mip", Asm.control(1, 3, 1, Asm.MIP), -1, 0, 0);
    }

    /** Writes 0, all 1s, and each bit alone; of these the bits of the mask are kept, and others are always 1. */
    private static void keeps(int number, int mask, int always) {
        for (int bit = -2; bit < 32; bit++) {
            int value = bit == -2 ? 0 : bit == -1 ? -1 : 1 << bit;
            RvCore core = new Program().control(number, value).add(Asm.control(2, 3, 0, number)).doneOn(64, 0);
            String text = "0x" + Integer.toHexString(number) + " behind writing 0x" + Integer.toHexString(value);
            Due.due("csr of " + text, core.csr(number), value & mask | always);
            Due.due("x3, " + text, core.reg(3), value & mask | always);
            for (int other : Asm.LISTED) {
                if (other != number) {
                    int due = other == Asm.MSTATUS ? 0x1800 : other == Asm.MISA ? 0x40001100 : 0;
                    Due.due("csr(" + other + "), " + text, core.csr(other), due);
                }
            }
        }
    }

    private static void mstatus() {
        Due.sentence("0x300 mstatus: MIE is bit 3, MPIE bit 7, 11 and 12 always 1, others 0.");
        keeps(0x300, 0x88, 0x1800);
    }

    private static void misa() {
        Due.sentence("0x301 misa: 0x40001100, whatever is written.");
        keeps(0x301, 0, 0x40001100);
    }

    private static void mie() {
        Due.sentence("0x304 mie: bits 3, 7, 11, others 0.");
        keeps(0x304, 0x888, 0);
    }

    private static void mtvec() {
        Due.sentence("0x305 mtvec: bit 1 is 0.");
        keeps(0x305, 0xFFFFFFFD, 0);
    }

    private static void mscratch() {
        Due.sentence("0x340 mscratch.");
        keeps(0x340, -1, 0);
    }

    private static void mepc() {
        Due.sentence("0x341 mepc: bits 0, 1 are 0.");
        keeps(0x341, 0xFFFFFFFC, 0);
    }

    private static void mcause() {
        Due.sentence("0x342 mcause: bits 0 .. 3, 31, others 0.");
        keeps(0x342, 0x8000000F, 0);
    }

    private static void mtval() {
        Due.sentence("0x343 mtval.");
        keeps(0x343, -1, 0);
    }

    private static void mip() {
        Due.sentence("0x344 mip: bit 7 is whether TIME is not below LIMIT, without sign");
        // Of each row: TIME, LIMIT, whether the bit is 1.
        long[][] rows = {{0, 0, 1}, {0, 1, 0}, {1, 1, 1}, {2, 1, 1}, {0, -1, 0}, {-2, -1, 0}, {-1, -1, 1}, {-1, 0, 1},
                {-1, -2, 1}, {Long.MAX_VALUE, Long.MIN_VALUE, 0}, {Long.MIN_VALUE, Long.MAX_VALUE, 1},
                {Long.MIN_VALUE, Long.MIN_VALUE, 1},
                {0xFFFFFFFFL, 0x100000000L, 0}, {0x100000000L, 0xFFFFFFFFL, 1}, {0x100000000L, 0x100000000L, 1},
                {0x80000000L, 0x7FFFFFFFL, 1}, {0x7FFFFFFFL, 0x80000000L, 0}};
        for (long[] row : rows) {
            RvCore core = new Program().timer(Asm.LIMIT, row[1]).timer(Asm.TIME, row[0])
                    .add(Asm.control(2, 3, 0, Asm.MIP)).steppedOn(128, 0);
            String text = "mip with TIME " + row[0] + ", LIMIT " + row[1];
            Due.due(text, core.csr(Asm.MIP), row[2] == 1 ? 0x80 : 0);
            Due.due("x3, " + text, core.reg(3), row[2] == 1 ? 0x80 : 0);
        }
    }

    private static void mipWritten() {
        Due.sentence("others 0, whatever is written. 0xF14");
        keeps(0x344, 0, 0);
        for (int bit = -2; bit < 32; bit++) {
            int value = bit == -2 ? 0 : bit == -1 ? -1 : 1 << bit;
            RvCore core = new Program().timer(Asm.LIMIT, 0).control(0x344, value).doneOn(64, 0);
            Due.due("mip with TIME above LIMIT, behind writing " + value, core.csr(0x344), 0x80);
        }
    }

    private static void mhartid() {
        Due.sentence("0xF14 mhartid: 0.");
        One.gives("reading mhartid", Asm.control(2, 3, 0, 0xF14), 5, 7, 0);
        Due.due("csr(0xF14)", new RvCore(64, 0).csr(0xF14), 0);
    }
}
