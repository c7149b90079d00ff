/** The edges of NUMBERS, MEMORY, REGISTERS, and of the parts of an INSTRUCTION, sentence by sentence. */
public final class TermsEdgeTest {
    public static void main(String[] args) {
        reckoningRunsOver();
        addressesRunOver();
        placesRunOver();
        addressesAreWithoutSign();
        memoryBeginsAtZero();
        memoryEnds();
        lowestByteFirst();
        zeroStaysZero();
        everyRegister();
        partsOfAWord();
        offsetI();
        offsetS();
        offsetB();
        numberU();
        offsetJ();
        Due.end();
    }

    private static void reckoningRunsOver() {
        Due.sentence("NUMBERS have 32 bits and run over");
        One.gives("greatest + 1", Asm.addi(3, 1, 1), 0x7FFFFFFF, 0, 0x80000000);
        One.gives("-1 + 1", Asm.addi(3, 1, 1), -1, 0, 0);
        One.gives("least + -1", Asm.addi(3, 1, -1), 0x80000000, 0, 0x7FFFFFFF);
        One.gives("least + least", Asm.r(0x33, 3, 0, 1, 2, 0), 0x80000000, 0x80000000, 0);
        One.gives("0 - 1", Asm.r(0x33, 3, 0, 1, 2, 32), 0, 1, -1);
        One.gives("least - 1", Asm.r(0x33, 3, 0, 1, 2, 32), 0x80000000, 1, 0x7FFFFFFF);
        One.gives("0 - least", Asm.r(0x33, 3, 0, 1, 2, 32), 0, 0x80000000, 0x80000000);
        One.gives("65536 * 65536", Asm.r(0x33, 3, 0, 1, 2, 1), 65536, 65536, 0);
        One.gives("greatest * greatest", Asm.r(0x33, 3, 0, 1, 2, 1), 0x7FFFFFFF, 0x7FFFFFFF, 1);
        One.gives("3 to the left by 31", Asm.r(0x13, 3, 1, 1, 31, 0), 3, 0, 0x80000000);
    }

    private static void addressesRunOver() {
        Due.sentence("NUMBERS have 32 bits and run over; addresses are without sign.");
        RvCore core = One.ready(Asm.read(2, 3, 1, 2044), 0x400 - 2044, 0);
        core.load(0x400, 0x12345678);
        One.retires(core, "reading at 0xFFFFFC04 + 2044");
        Due.due("what was read", core.reg(3), 0x12345678);
        core = One.ready(Asm.s(2, 1, 2, 2044), 0x400 - 2044, 0x12345678);
        One.retires(core, "storing at 0xFFFFFC04 + 2044");
        Due.due("peek(0x400)", core.peek(0x400), 0x78);
        Due.due("peek(0x403)", core.peek(0x403), 0x12);
        One.trapped("reading at 4 - 8", Asm.read(2, 3, 1, -8), 4, 0, 5, 0xFFFFFFFC);
        One.trapped("storing at 4 - 8", Asm.s(2, 1, 2, -8), 4, 0, 7, 0xFFFFFFFC);
        One.trapped("reading at greatest + 1", Asm.read(0, 3, 1, 1), 0x7FFFFFFF, 0, 5, 0x80000000);
    }

    private static void placesRunOver() {
        Due.sentence("NUMBERS have 32 bits and run over; addresses are without sign.");
        One.gives("PC + 0xFFFFF000", Asm.auipc(3, 0xFFFFF000), 0, 0, One.PLACE - 4096);
        One.goes("PC - 40", Asm.j(3, -40), 0, 0, 0xFFFFFFFC);
        One.goes("PC - 40, a branch", Asm.b(0, 0, 0, -40), 0, 0, 0xFFFFFFFC);
        One.goes("-4 + 8", Asm.jalr(3, 1, 8), -4, 0, 4);
        One.goes("0 - 4", Asm.jalr(3, 0, -4), 0, 0, 0xFFFFFFFC);
        One.goes("greatest + 5", Asm.jalr(3, 1, 5), 0x7FFFFFFF, 0, 0x80000004);
    }

    private static void addressesAreWithoutSign() {
        Due.sentence("addresses are without sign");
        RvCore core = new RvCore(65536, 0);
        int[] places = {0x80000000, 0x80000004, 0xFFFFFFFC, 0xFFFF0000, 0xFFFFFFFF};
        for (int place : places) {
            Due.due("poke(" + place + ")", core.poke(place, 1), false);
            Due.due("load(" + place + ")", core.load(place, 1), false);
            Due.due("peek(" + place + ")", core.peek(place), -1);
            One.trapped("reading at " + place, Asm.read(0, 3, 1, 0), place, 0, 5, place);
            One.trapped("storing at " + place, Asm.s(0, 1, 2, 0), place, 0, 7, place);
        }
        core = One.goes("a jump to 0x80000000", Asm.jalr(3, 1, 0), 0x80000000, 0, 0x80000000);
        Due.due("step() there", core.step(), RvCore.TRAPPED);
        Due.due("mcause there", core.csr(Asm.MCAUSE), 1);
        Due.due("mtval there", core.csr(Asm.MTVAL), 0x80000000);
    }

    private static void memoryBeginsAtZero() {
        Due.sentence("MEMORY has a multiple of 4 bytes, from address 0 on");
        RvCore core = new Program().add(Asm.read(4, 3, 0, 0), Asm.addi(2, 0, 0x7A), Asm.s(0, 0, 2, 0)).doneOn(64, 0);
        Due.due("the byte read at 0", core.reg(3), Asm.read(4, 3, 0, 0) & 255);
        Due.due("peek(0)", core.peek(0), 0x7A);
        One.trapped("reading at -1", Asm.read(4, 3, 0, -1), 0, 0, 5, -1);
        One.trapped("storing at -1", Asm.s(0, 0, 2, -1), 0, 0, 7, -1);
    }

    private static void memoryEnds() {
        Due.sentence("MEMORY has a multiple of 4 bytes");
        // Of 67 bytes, 64 are left.
        RvCore core = new Program().add(Asm.jalr(0, 0, 60)).on(67, 0);
        Due.due("load(60)", core.load(60, Asm.addi(3, 0, 5)), true);
        Due.due("run(3)", core.run(3), 3);
        Due.due("x3, by the last word", core.reg(3), 5);
        Due.due("told(4) behind the last word", core.told(4), RvCore.TRAPPED);
        Due.due("mcause behind the last word", core.csr(Asm.MCAUSE), 1);
        Due.due("mtval behind the last word", core.csr(Asm.MTVAL), 64);
        int[] sizes = {1, 2, 4};
        for (int f = 0; f < 3; f++) {
            int last = 64 - sizes[f];
            core = new Program().add(Asm.s(f, 0, 0, last), Asm.read(f, 3, 0, last), Asm.s(f, 0, 0, 64)).on(67, 0);
            Due.due("run(9), f " + f, core.run(9), 3);
            Due.due("mcause, f " + f, core.csr(Asm.MCAUSE), 7);
            Due.due("mtval, f " + f, core.csr(Asm.MTVAL), 64);
        }
    }

    private static void lowestByteFirst() {
        Due.sentence("numbers with the lowest byte first");
        RvCore core = new RvCore(64, 0);
        int[] bytes = {0x93, 0x01, 0x50, 0x00};
        for (int i = 0; i < 4; i++) {
            core.poke(i, bytes[i]);
        }
        Due.due("step() of 0x00500193", core.step(), RvCore.RETIRED);
        Due.due("x3 behind 0x00500193", core.reg(3), 5);
        core = One.ready(Asm.s(2, 0, 2, 0x400), 0, 0x0A0B0C0D);
        One.retires(core, "storing four");
        for (int i = 0; i < 4; i++) {
            Due.due("peek(0x400 + " + i + ")", core.peek(0x400 + i), 0x0D - i);
        }
        core = One.ready(Asm.s(1, 0, 2, 0x402), 0, 0x0A0B0C0D);
        One.retires(core, "storing two");
        Due.due("peek(0x402)", core.peek(0x402), 0x0D);
        Due.due("peek(0x403)", core.peek(0x403), 0x0C);
        readsBytes(2, 0x04030201);
        readsBytes(5, 0x0201);
        readsBytes(1, 0x0201);
    }

    private static void readsBytes(int f, int due) {
        RvCore core = One.ready(Asm.read(f, 3, 0, 0x400), 0, 0);
        for (int i = 0; i < 4; i++) {
            core.poke(0x400 + i, i + 1);
        }
        One.retires(core, "reading, f " + f);
        Due.due("what was read, f " + f, core.reg(3), due);
    }

    private static void zeroStaysZero() {
        Due.sentence("REGISTERS x0 .. x31, x0 always 0");
        int[] words = {Asm.lui(0, 0x7000), Asm.auipc(0, 0x7000), Asm.j(0, 8), Asm.jalr(0, 1, 0), Asm.read(2, 0, 0, 0),
                Asm.addi(0, 1, 1), Asm.r(0x33, 0, 0, 1, 2, 0), Asm.r(0x33, 0, 0, 1, 2, 1), Asm.r(0x33, 0, 4, 1, 2, 1),
                Asm.control(1, 0, 1, Asm.MISA), Asm.control(6, 0, 1, Asm.MTVEC)};
        for (int word : words) {
            RvCore core = One.ready(word, 16, 12);
            One.retires(core, "d 0 of 0x" + Integer.toHexString(word));
            Due.due("reg(0)", core.reg(0), 0);
        }
        // What the instruction does beside d is done with d 0 as well.
        One.trapped("d 0, reading at no multiple", Asm.read(2, 0, 0, 1), 0, 0, 4, 1);
        One.gives("0 + 5", Asm.addi(3, 0, 5), 0, 0, 5);
        One.gives("0 - b", Asm.r(0x33, 3, 0, 0, 2, 32), 0, 9, -9);
        One.gives("a - 0", Asm.r(0x33, 3, 0, 1, 0, 32), 9, 0, 9);
    }

    private static void everyRegister() {
        Due.sentence("REGISTERS x0 .. x31");
        for (int i = 0; i < 32; i++) {
            RvCore core = new Program().add(Asm.addi(i, 0, 11), Asm.addi(3, i, 100)).doneOn(64, 0);
            Due.due("100 more than x" + i, core.reg(3), i == 0 ? 100 : 111);
            core = new Program().add(Asm.addi(i, 0, 11), Asm.r(0x33, 3, 0, 0, i, 0)).doneOn(64, 0);
            Due.due("x" + i + " as b", core.reg(3), i == 0 ? 0 : 11);
            core = new Program().add(Asm.addi(i, 0, 11)).doneOn(64, 0);
            for (int other = 0; other < 32; other++) {
                Due.due("reg(" + other + ") behind x" + i + " alone", core.reg(other), other == i && i != 0 ? 11 : 0);
            }
        }
    }

    private static void partsOfAWord() {
        Due.sentence("opcode: bits 0 .. 6; d: 7 .. 11; f: 12 .. 14; s: 15 .. 19; t: 20 .. 24; g: 25 .. 31");
        // All written out: x31 = x31 + x31; x1 = x31 - x2; x30 = x15 * x16 and so on.
        RvCore core = new Program().set(31, 5).set(2, 3).set(15, 6).set(16, 7)
                .add(0x01FF8FB3, 0x402F80B3, 0x03078F33, 0x01F0D793).doneOn(64, 0);
        Due.due("x31", core.reg(31), 10);
        Due.due("x1", core.reg(1), 7);
        Due.due("x30", core.reg(30), 42);
        Due.due("x15", core.reg(15), 0);
        // A single bit more of opcode, f or g makes another word of it.
        One.gives("0x002081B3", 0x002081B3, 20, 4, 24);
        One.gives("bit 12", 0x002091B3, 20, 4, 320);
        One.gives("bit 14", 0x0020C1B3, 20, 4, 16);
        One.gives("bit 25", 0x022081B3, 20, 4, 80);
        One.gives("bit 30", 0x402081B3, 20, 4, 16);
        One.illegal(0x802081B3);
        One.illegal(0x002081F3);
        One.illegal(0x002081B2);
    }

    private static void offsetI() {
        Due.sentence("I: bits 20 .. 31 with sign.");
        One.gives("I 2047", 0x7FF08193, 0, 0, 2047);
        One.gives("I -2048", 0x80008193, 0, 0, -2048);
        One.gives("I -1", 0xFFF08193, 0, 0, -1);
        One.gives("I 0", 0x00008193, 0, 0, 0);
        for (int bit = 0; bit < 11; bit++) {
            One.gives("I with bit " + bit, 0x00008193 | 1 << (20 + bit), 0, 0, 1 << bit);
        }
        RvCore core = One.ready(0x80008183, 0x800, 0);
        One.retires(core, "reading at 0x800 - 2048");
        Due.due("the byte at 0", core.reg(3), (byte) core.peek(0));
        core = One.ready(0x7FF08183, 0x800, 0);
        core.poke(0xFFF, 33);
        One.retires(core, "reading at 0x800 + 2047");
        Due.due("the byte at 0xFFF", core.reg(3), 33);
    }

    private static void offsetS() {
        Due.sentence("S: 25 .. 31 and 7 .. 11, with sign.");
        storesAt(0x80208023, 0x800 - 2048);
        storesAt(0x7E208FA3, 0x800 + 2047);
        storesAt(0xFE208FA3, 0x800 - 1);
        storesAt(0x00208023, 0x800);
        for (int bit = 0; bit < 5; bit++) {
            storesAt(0x00208023 | 1 << (7 + bit), 0x800 + (1 << bit));
        }
        for (int bit = 5; bit < 11; bit++) {
            storesAt(0x00208023 | 1 << (20 + bit), 0x800 + (1 << bit));
        }
    }

    private static void storesAt(int word, int place) {
        RvCore core = One.ready(word, 0x800, 0xEE);
        One.retires(core, "storing by 0x" + Integer.toHexString(word));
        Due.due("peek(" + place + ")", core.peek(place), 0xEE);
    }

    private static void offsetB() {
        Due.sentence("B: 31, 7, 25 .. 30, 8 .. 11, and 0, with sign.");
        One.goes("B -4096", 0x80000063, 0, 0, One.PLACE - 4096);
        One.goes("B 4092", 0x7E000EE3, 0, 0, One.PLACE + 4092);
        One.goes("B -4", 0xFE000EE3, 0, 0, One.PLACE - 4);
        One.goes("B 0", 0x00000063, 0, 0, One.PLACE);
        One.goes("B 2048", 0x000000E3, 0, 0, One.PLACE + 2048);
        for (int bit = 2; bit < 5; bit++) {
            One.goes("B with bit " + bit, 0x00000063 | 1 << (7 + bit), 0, 0, One.PLACE + (1 << bit));
        }
        for (int bit = 5; bit < 11; bit++) {
            One.goes("B with bit " + bit, 0x00000063 | 1 << (20 + bit), 0, 0, One.PLACE + (1 << bit));
        }
        One.trapped("B 4094", 0x7E000FE3, 0, 0, 0, One.PLACE + 4094);
        One.trapped("B 2", 0x00000163, 0, 0, 0, One.PLACE + 2);
    }

    private static void numberU() {
        Due.sentence("U: bits 12 .. 31, and 0s.");
        One.gives("U 0", 0x000001B7, 0, 0, 0);
        One.gives("U all 1s", 0xFFFFF1B7, 0, 0, 0xFFFFF000);
        for (int bit = 12; bit < 32; bit++) {
            One.gives("U with bit " + bit, 0x000001B7 | 1 << bit, 0, 0, 1 << bit);
        }
    }

    private static void offsetJ() {
        Due.sentence("J: 31, 12 .. 19, 20, 21 .. 30, and 0, with sign.");
        One.goes("J -1048576", 0x800001EF, 0, 0, One.PLACE - 1048576);
        One.goes("J 1048572", 0x7FDFF1EF, 0, 0, One.PLACE + 1048572);
        One.goes("J -4", 0xFFDFF1EF, 0, 0, One.PLACE - 4);
        One.goes("J 0", 0x000001EF, 0, 0, One.PLACE);
        One.goes("J 2048", 0x001001EF, 0, 0, One.PLACE + 2048);
        for (int bit = 12; bit < 20; bit++) {
            One.goes("J with bit " + bit, 0x000001EF | 1 << bit, 0, 0, One.PLACE + (1 << bit));
        }
        for (int bit = 2; bit < 11; bit++) {
            One.goes("J with bit " + bit, 0x000001EF | 1 << (20 + bit), 0, 0, One.PLACE + (1 << bit));
        }
        One.trapped("J 1048574", 0x7FFFF1EF, 0, 0, 0, One.PLACE + 1048574);
        One.trapped("J 2", 0x002001EF, 0, 0, 0, One.PLACE + 2);
    }
}
