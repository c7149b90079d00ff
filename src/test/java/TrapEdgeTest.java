/** The edges of TRAPS and of the INTERRUPT, sentence by sentence. */
public final class TrapEdgeTest {
    public static void main(String[] args) {
        comesFromAnyPlace();
        writesAnew();
        switches();
        leadsTo();
        jumpsToNoMultiple();
        branchesToNoMultiple();
        fetchesOutside();
        illegalWords();
        breaks();
        readsAtNoMultiple();
        readsOutside();
        storesAtNoMultiple();
        storesOutside();
        noMultipleAndOutside();
        calls();
        interrupts();
        interruptsWithItsOwnEntry();
        Due.end();
    }

    private static void comesFromAnyPlace() {
        Due.sentence("TRAPS: mepc becomes PC");
        int[] places = {0, 4, 60};
        for (int place : places) {
            RvCore core = new Program().add(Asm.jalr(0, 0, place)).on(64, 0);
            Due.due("step() to the place", core.step(), RvCore.RETIRED);
            core.load(place, Asm.CALL);
            Due.due("step() of CALL at " + place, core.step(), RvCore.TRAPPED);
            Due.due("mepc at " + place, core.csr(Asm.MEPC), place);
        }
        int[] outside = {64, 0x80000000, 0xFFFFFFFC};
        for (int place : outside) {
            RvCore core = new Program().set(1, place).add(Asm.jalr(0, 1, 0)).doneOn(64, 0);
            Due.due("step() at " + place, core.step(), RvCore.TRAPPED);
            Due.due("mepc at " + place, core.csr(Asm.MEPC), place);
        }
    }

    private static void writesAnew() {
        Due.sentence("mcause and mtval what is told here");
        RvCore core = new Program().control(Asm.MCAUSE, -1).control(Asm.MTVAL, -1).control(Asm.MEPC, -1)
                .control(Asm.MSCRATCH, 5).add(Asm.CALL).readyOn(64, 0);
        Due.due("step() of CALL", core.step(), RvCore.TRAPPED);
        Due.due("mcause", core.csr(Asm.MCAUSE), 11);
        Due.due("mtval", core.csr(Asm.MTVAL), 0);
        Due.due("mepc", core.csr(Asm.MEPC), 48);
        Due.due("mscratch", core.csr(Asm.MSCRATCH), 5);
        Due.due("mie", core.csr(Asm.MIE), 0);
        Due.due("mtvec", core.csr(Asm.MTVEC), 0);
        // A trap within a trap writes over the one before.
        core = new Program().control(Asm.MTVEC, 16).add(Asm.CALL, Asm.BREAK).on(64, 0);
        Due.due("run(9)", core.run(9), 4);
        Due.due("mcause of the first", core.csr(Asm.MCAUSE), 11);
        Due.due("step() of the second", core.step(), RvCore.TRAPPED);
        Due.due("mcause of the second", core.csr(Asm.MCAUSE), 3);
        Due.due("mtval of the second", core.csr(Asm.MTVAL), 16);
        Due.due("mepc of the second", core.csr(Asm.MEPC), 16);
    }

    private static void switches() {
        Due.sentence("MPIE what MIE is, MIE 0");
        // Of each row: mstatus before and behind.
        int[][] rows = {{0x00, 0x1800}, {0x08, 0x1880}, {0x80, 0x1800}, {0x88, 0x1880}};
        int[] words = {Asm.CALL, Asm.BREAK, 0, Asm.j(0, 2), Asm.read(2, 3, 0, 1), Asm.read(2, 3, 0, 64),
                Asm.s(2, 0, 3, 1), Asm.s(2, 0, 3, 64)};
        for (int[] row : rows) {
            for (int word : words) {
                RvCore core = new Program().control(Asm.MSTATUS, row[0]).add(word).readyOn(64, 0);
                Due.due("step() of 0x" + Integer.toHexString(word), core.step(), RvCore.TRAPPED);
                Due.due("mstatus behind " + row[0], core.csr(Asm.MSTATUS), row[1]);
            }
        }
    }

    private static void leadsTo() {
        Due.sentence("PC mtvec without its lowest two bits.");
        // Of each row: what is written to mtvec, where a trap leads.
        int[][] rows = {{0, 0}, {1, 0}, {2, 0}, {3, 0}, {4, 4}, {5, 4}, {-1, 0xFFFFFFFC}, {0x80000001, 0x80000000},
                {0x7FFFFFFF, 0x7FFFFFFC}};
        for (int[] row : rows) {
            RvCore core = new Program().control(Asm.MTVEC, row[0]).add(Asm.CALL).readyOn(64, 0);
            Due.due("step() of CALL", core.step(), RvCore.TRAPPED);
            Due.due("pc() with mtvec " + row[0], core.pc(), row[1]);
        }
    }

    private static void jumpsToNoMultiple() {
        Due.sentence("0 (mtval: that place): PC would become no multiple of 4 (nothing else is done then, d neither).");
        One.trapped("J 2", Asm.j(3, 2), 0, 0, 0, One.PLACE + 2);
        One.trapped("J -2", Asm.j(3, -2), 0, 0, 0, One.PLACE - 2);
        One.trapped("J to below 0", Asm.j(3, -One.PLACE - 2), 0, 0, 0, -2);
        One.trapped("a + I being 2", Asm.jalr(3, 1, 0), 2, 0, 0, 2);
        One.trapped("a + I being 3", Asm.jalr(3, 1, 0), 3, 0, 0, 2);
        One.trapped("a + I being -1", Asm.jalr(3, 1, -1), 0, 0, 0, -2);
        One.trapped("a + I being 0x80000002", Asm.jalr(3, 1, 2), 0x80000000, 0, 0, 0x80000002);
        // d is s here, and stays as well.
        One.trapped("d being s", Asm.jalr(1, 1, 0), 6, 0, 0, 6);
        // Where the place is outside as well, the jump is what traps.
        One.trapped("a + I outside", Asm.jalr(3, 1, 0), One.BYTES + 2, 0, 0, One.BYTES + 2);
        One.goes("a + I being 5", Asm.jalr(3, 1, 0), 5, 0, 4);
    }

    private static void branchesToNoMultiple() {
        Due.sentence("0 (mtval: that place): PC would become no multiple of 4");
        int[] taken = {0, 5, 7};
        int[] left = {1, 4, 6};
        for (int f : taken) {
            One.trapped("a branch by 2, f " + f, Asm.b(f, 1, 2, 2), 5, 5, 0, One.PLACE + 2);
            One.trapped("a branch by -6, f " + f, Asm.b(f, 1, 2, -6), 5, 5, 0, One.PLACE - 6);
        }
        for (int f : left) {
            // One that is not taken would not become it.
            One.goes("no branch by 2, f " + f, Asm.b(f, 1, 2, 2), 5, 5, One.PLACE + 4);
        }
    }

    private static void fetchesOutside() {
        Due.sentence("1 (PC): the instruction is not in MEMORY.");
        int[] sizes = {64, 67, 65536};
        int[] ends = {64, 64, 65536};
        for (int i = 0; i < sizes.length; i++) {
            int[] places = {ends[i], ends[i] + 4, 0x7FFFFFFC, 0x80000000, 0xFFFFFFFC};
            for (int place : places) {
                RvCore core = new Program().control(Asm.MTVEC, 8).set(1, place).add(Asm.jalr(0, 1, 0))
                        .doneOn(sizes[i], 0);
                Due.due("step() at " + place, core.step(), RvCore.TRAPPED);
                Due.due("mcause at " + place, core.csr(Asm.MCAUSE), 1);
                Due.due("mtval at " + place, core.csr(Asm.MTVAL), place);
                Due.due("pc() behind " + place, core.pc(), 8);
                Due.due("told(2) behind " + place, core.told(2), 6);
            }
            RvCore core = new Program().set(1, ends[i] - 4).add(Asm.jalr(0, 1, 0)).doneOn(sizes[i], 0);
            core.load(ends[i] - 4, Asm.FENCE);
            Due.due("step() at the last word", core.step(), RvCore.RETIRED);
            Due.due("step() behind it", core.step(), RvCore.TRAPPED);
            Due.due("mtval behind it", core.csr(Asm.MTVAL), ends[i]);
        }
    }

    private static void illegalWords() {
        Due.sentence("2 (the word): ILLEGAL.");
        int[] words = {0, 1, -1, 0x7FFFFFFF, 0x80000000, 0x00000001, 0xFFFFFF80, 0x00002063, 0x00003003, 0x00003023,
                0x02001013, 0x04000033, 0x0000100F, 0x00004073};
        for (int word : words) {
            One.illegal(word);
        }
        // A word is ILLEGAL before its address or its place is looked at.
        One.trapped("f 3 at no multiple", Asm.read(3, 3, 1, 1), 0, 0, 2, Asm.read(3, 3, 1, 1));
        One.trapped("f 3 outside", Asm.s(3, 1, 2, 0), -8, 0, 2, Asm.s(3, 1, 2, 0));
        One.trapped("f 2 to no multiple", Asm.b(2, 0, 0, 2), 0, 0, 2, Asm.b(2, 0, 0, 2));
        One.trapped("0x67, f 1 to no multiple", Asm.i(0x67, 3, 1, 1, 2), 0, 0, 2, Asm.i(0x67, 3, 1, 1, 2));
    }

    private static void breaks() {
        Due.sentence("3 (PC): BREAK.");
        One.trapped("BREAK", Asm.BREAK, 5, 7, 3, One.PLACE);
        RvCore core = new Program().add(Asm.BREAK).on(64, 0);
        Due.due("step() at 0", core.step(), RvCore.TRAPPED);
        Due.due("mtval at 0", core.csr(Asm.MTVAL), 0);
        Due.due("mcause at 0", core.csr(Asm.MCAUSE), 3);
    }

    private static void readsAtNoMultiple() {
        Due.sentence("4 (the address): reading at no multiple of its size.");
        int last = One.BYTES - 4;
        for (int low = 0; low < 4; low++) {
            for (int f = 0; f < 6; f++) {
                if (f == 3) {
                    continue;
                }
                boolean fits = f % 4 == 0 || f % 4 == 1 && low % 2 == 0 || low == 0;
                if (fits) {
                    One.gives("reading, f " + f + ", at " + (last + low), Asm.read(f, 3, 1, low), last, 0, 0);
                } else {
                    One.trapped("reading, f " + f, Asm.read(f, 3, 1, low), last, 0, 4, last + low);
                }
            }
        }
    }

    private static void readsOutside() {
        Due.sentence("5 (the address): reading neither in MEMORY nor what DEVICES give.");
        int[] places = {One.BYTES, One.BYTES + 4, 65536, 0x7FFFFFFC, 0x80000000, 0xFFFFFFFC, 0x02000000, 0x10000008};
        int[] ways = {0, 1, 2, 4, 5};
        for (int place : places) {
            for (int f : ways) {
                One.trapped("reading, f " + f, Asm.read(f, 3, 1, 0), place, 0, 5, place);
            }
        }
        One.trapped("reading the last byte of all", Asm.read(0, 3, 1, 0), -1, 0, 5, -1);
        One.trapped("reading the last two of all", Asm.read(1, 3, 1, 0), -2, 0, 5, -2);
        RvCore core = new Program().set(1, 65536).add(Asm.read(2, 3, 1, 0)).readyOn(65536, 0);
        Due.due("step() behind the largest", core.step(), RvCore.TRAPPED);
        Due.due("mcause behind the largest", core.csr(Asm.MCAUSE), 5);
        core = new Program().set(1, 65532).add(Asm.read(2, 3, 1, 0)).readyOn(65536, 0);
        Due.due("step() at the end of the largest", core.step(), RvCore.RETIRED);
    }

    private static void storesAtNoMultiple() {
        Due.sentence("6, 7: likewise storing.");
        int last = One.BYTES - 4;
        for (int low = 0; low < 4; low++) {
            for (int f = 0; f < 3; f++) {
                boolean fits = f == 0 || f == 1 && low % 2 == 0 || low == 0;
                RvCore core = One.ready(Asm.s(f, 1, 2, low), last, -1);
                if (fits) {
                    One.retires(core, "storing, f " + f + ", at " + (last + low));
                } else {
                    One.traps(core, "storing, f " + f + ", at " + (last + low), 6, last + low);
                }
                for (int i = 0; i < 4; i++) {
                    boolean comes = fits && i >= low && i < low + (1 << f);
                    Due.due("peek(" + (last + i) + ")", core.peek(last + i), comes ? 255 : 0);
                }
            }
        }
    }

    private static void storesOutside() {
        Due.sentence("6, 7: likewise storing. 11");
        int[] places = {One.BYTES, One.BYTES + 4, 65536, 0x7FFFFFFC, 0x80000000, 0xFFFFFFFC, 0x02000000, 0x10000008};
        for (int place : places) {
            for (int f = 0; f < 3; f++) {
                RvCore core = One.trapped("storing, f " + f, Asm.s(f, 1, 2, 0), place, -1, 7, place);
                Due.due("told(1)", core.told(1), -1);
                Due.due("told(0)", core.told(0), 9);
                Due.due("peek of the last byte", core.peek(One.BYTES - 1), 0);
            }
        }
        One.trapped("storing the last byte of all", Asm.s(0, 1, 2, 0), -1, 9, 7, -1);
        One.trapped("storing the last two of all", Asm.s(1, 1, 2, 0), -2, 9, 7, -2);
    }

    /** The document tells no order; 4 and 6 stand before 5 and 7 there, and ask nothing about the place. */
    private static void noMultipleAndOutside() {
        Due.sentence("4 (the address): reading at no multiple of its size. 5 (the address)");
        One.trapped("reading four", Asm.read(2, 3, 1, 0), One.BYTES + 2, 0, 4, One.BYTES + 2);
        One.trapped("reading two", Asm.read(5, 3, 1, 0), -1, 0, 4, -1);
        One.trapped("storing four", Asm.s(2, 1, 2, 0), One.BYTES + 2, 0, 6, One.BYTES + 2);
        One.trapped("storing two", Asm.s(1, 1, 2, 0), -1, 0, 6, -1);
    }

    private static void calls() {
        Due.sentence("11 (0): CALL.");
        RvCore core = new Program().control(Asm.MTVAL, -1).add(Asm.CALL).readyOn(64, 0);
        Due.due("step() of CALL", core.step(), RvCore.TRAPPED);
        Due.due("mcause of CALL", core.csr(Asm.MCAUSE), 11);
        Due.due("mtval of CALL", core.csr(Asm.MTVAL), 0);
        Due.due("mepc of CALL", core.csr(Asm.MEPC), 12);
    }

    /** MIE is 1, and TIME above LIMIT, so that the next step is an INTERRUPT; PC is 88. */
    private static RvCore due(int mtvec) {
        return new Program().timer(Asm.LIMIT, 0).control(Asm.MTVAL, -1).control(Asm.MTVEC, mtvec).control(Asm.MIE, 0x80)
                .control(Asm.MSTATUS, 8).doneOn(256, 0);
    }

    private static void interrupts() {
        Due.sentence("INTERRUPT: like a TRAP with mcause 0x80000007, mtval 0");
        RvCore core = due(0x200);
        Due.due("step()", core.step(), RvCore.INTERRUPTED);
        Due.due("mcause", core.csr(Asm.MCAUSE), 0x80000007);
        Due.due("mtval", core.csr(Asm.MTVAL), 0);
        Due.due("mepc", core.csr(Asm.MEPC), 88);
        Due.due("mstatus", core.csr(Asm.MSTATUS), 0x1880);
        Due.due("pc()", core.pc(), 0x200);
        Due.due("told(2)", core.told(2), 22);
        Due.due("mip stays", core.csr(Asm.MIP), 0x80);
        Due.due("mie stays", core.csr(Asm.MIE), 0x80);
        // MIE is 0 now, so there is none within it.
        Due.due("step() behind it", core.step(), RvCore.TRAPPED);
    }

    private static void interruptsWithItsOwnEntry() {
        Due.sentence("but if the lowest bit of mtvec is 1 PC is 28 more.");
        // Of each row: what is written to mtvec, where the interrupt leads, where a trap leads then.
        int[][] rows = {{0, 0, 0}, {1, 28, 0}, {2, 0, 0}, {3, 28, 0}, {0x100, 0x100, 0x100}, {0x101, 0x11C, 0x100},
                {0xFFFFFFFC, 0xFFFFFFFC, 0xFFFFFFFC}, {0xFFFFFFFD, 24, 0xFFFFFFFC}, {0xFFFFFFE5, 0, 0xFFFFFFE4},
                {0x7FFFFFF1, 0x8000000C, 0x7FFFFFF0}};
        for (int[] row : rows) {
            RvCore core = due(row[0]);
            Due.due("step()", core.step(), RvCore.INTERRUPTED);
            Due.due("pc() with mtvec " + row[0], core.pc(), row[1]);
            core = new Program().control(Asm.MTVEC, row[0]).add(Asm.CALL).readyOn(64, 0);
            Due.due("step() of CALL", core.step(), RvCore.TRAPPED);
            Due.due("pc() behind CALL with mtvec " + row[0], core.pc(), row[2]);
        }
    }
}
