/** Promise 6: the opcodes 0x03, 0x23, DEVICES, and the traps 4 to 7. */
public final class ReadStoreTest {
    private static final int[] READS = {0, 1, 2, 4, 5};
    private static final int BYTES = 128;

    public static void main(String[] args) {
        readsMemory();
        storesMemory();
        offsetsHaveSigns();
        readsAtTheEnd();
        placesOutsideTrap();
        deviceWords();
        partsOfDeviceWordsTrap();
        timeIsWritten();
        otherWordsAreIllegal();
        changesItsOwnProgram();
        Due.end();
    }

    private static int sizeOf(int f) {
        return 1 << (f & 3);
    }

    private static void readsMemory() {
        int[] bytes = {0x80, 0x7F, 0xFF, 0x01, 0x12, 0x93, 0x00, 0x80};
        for (int f : READS) {
            for (int at = 0; at < 8; at++) {
                RvCore core = new Program().set(3, 99).add(Asm.read(f, 3, 0, 100 + at)).readyOn(BYTES, 0);
                for (int i = 0; i < 8; i++) {
                    core.poke(100 + i, bytes[i]);
                }
                String text = "reading, f " + f + ", at " + (100 + at);
                int size = sizeOf(f);
                if (at % size != 0) {
                    trapped(core, text, 4, 100 + at);
                    Due.due("reg(3) stays", core.reg(3), 99);
                    continue;
                }
                long due = 0;
                for (int i = 0; i < size; i++) {
                    due |= (long) bytes[at + i] << (8 * i);
                }
                due = f == 0 ? (byte) due : f == 1 ? (short) due : f == 2 ? (int) due : due;
                Due.due("step() of " + text, core.step(), RvCore.RETIRED);
                Due.due(text, core.reg(3), due);
            }
        }
    }

    private static void storesMemory() {
        for (int f = 0; f <= 2; f++) {
            for (int at = 0; at < 8; at++) {
                RvCore core = new Program().set(3, 0x84A3C2E1).add(Asm.s(f, 0, 3, 100 + at)).readyOn(BYTES, 0);
                for (int i = 0; i < 12; i++) {
                    core.poke(98 + i, 0x50 + i);
                }
                String text = "storing, f " + f + ", at " + (100 + at);
                int size = sizeOf(f);
                boolean fits = at % size == 0;
                if (fits) {
                    Due.due("step() of " + text, core.step(), RvCore.RETIRED);
                } else {
                    trapped(core, text, 6, 100 + at);
                }
                for (int i = 0; i < 12; i++) {
                    int behind = 98 + i - (100 + at);
                    boolean within = fits && behind >= 0 && behind < size;
                    int due = within ? (0x84A3C2E1 >>> (8 * behind)) & 255 : 0x50 + i;
                    Due.due("peek(" + (98 + i) + ") behind " + text, core.peek(98 + i), due);
                }
            }
        }
    }

    private static void trapped(RvCore core, String text, int cause, int value) {
        int place = core.pc();
        long before = core.told(2);
        Due.due("step() of " + text, core.step(), RvCore.TRAPPED);
        Due.due("mcause of " + text, core.csr(Asm.MCAUSE), cause);
        Due.due("mtval of " + text, core.csr(Asm.MTVAL), value);
        Due.due("mepc of " + text, core.csr(Asm.MEPC), place);
        Due.due("told(2) behind " + text, core.told(2), before);
    }

    private static void offsetsHaveSigns() {
        int[] offsets = {-2048, -4, -1024, 0, 4, 32, 1024, 2044, -36, 31 * 4};
        for (int offset : offsets) {
            RvCore core = new Program().set(1, 4096).set(2, 0x1234567).add(Asm.s(2, 1, 2, offset), Asm.read(2, 3, 1, offset))
                    .doneOn(8192, 0);
            Due.due("reading what was stored at offset " + offset, core.reg(3), 0x1234567);
            Due.due("peek there", core.peek(4096 + offset), 0x67);
        }
    }

    private static void readsAtTheEnd() {
        for (int f : READS) {
            int last = BYTES - sizeOf(f);
            RvCore core = new Program().add(Asm.read(f, 3, 0, last)).on(BYTES, 0);
            core.load(BYTES - 4, 0x01010101);
            Due.due("step(), f " + f + " at the last place", core.step(), RvCore.RETIRED);
            Due.due("reg(3)", core.reg(3), sizeOf(f) == 1 ? 1 : sizeOf(f) == 2 ? 0x101 : 0x01010101);
            trapped(new Program().add(Asm.read(f, 3, 0, BYTES)).on(BYTES, 0), "reading behind the end", 5, BYTES);
            if (f <= 2) {
                trapped(new Program().add(Asm.s(f, 0, 3, BYTES)).on(BYTES, 0), "storing behind the end", 7, BYTES);
            }
        }
    }

    private static void placesOutsideTrap() {
        int[] places = {0x10000, -4, -2048, Asm.LIMIT - 4, Asm.LIMIT + 8, Asm.TIME - 4, Asm.TIME + 8, Asm.PORT - 4,
                Asm.PORT + 4, Integer.MIN_VALUE, Asm.PORT + 1, Asm.PORT + 2, Asm.TIME + 1, Asm.LIMIT + 2, -1};
        for (int place : places) {
            for (int f : READS) {
                boolean fits = (place & sizeOf(f) - 1) == 0;
                Program reading = new Program().set(1, place).add(Asm.read(f, 3, 1, 0));
                trapped(reading.readyOn(65536, 9), "reading, f " + f + ", at " + place, fits ? 5 : 4, place);
                if (f <= 2) {
                    RvCore core = new Program().set(1, place).add(Asm.s(f, 1, 1, 0)).readyOn(65536, 9);
                    trapped(core, "storing, f " + f + ", at " + place, fits ? 7 : 6, place);
                    Due.due("outSize()", core.outSize(), 0);
                    Due.due("told(1)", core.told(1), -1);
                }
            }
        }
    }

    private static void deviceWords() {
        int[] places = {Asm.TIME, Asm.TIME + 4, Asm.LIMIT, Asm.LIMIT + 4};
        for (int place : places) {
            RvCore core = new Program().store(place, 0x80FEDC00).set(1, place).add(Asm.read(2, 3, 1, 0)).on(BYTES, 0);
            long behind = 0;
            for (int i = 0; i < 8; i++) {
                // Single steps, so that TIME stands still.
                behind += core.step();
            }
            Due.due("steps", behind, 0);
            Due.due("reading the word at " + place, core.reg(3), 0x80FEDC00);
            long time = place == Asm.TIME ? 0x80FEDC00L : place == Asm.TIME + 4 ? 0x80FEDC0000000000L : 0;
            long limit = place == Asm.LIMIT ? 0xFFFFFFFF80FEDC00L : place == Asm.LIMIT + 4 ? 0x80FEDC00FFFFFFFFL : -1L;
            Due.due("told(0) behind storing at " + place, core.told(0), time);
            Due.due("told(1) behind storing at " + place, core.told(1), limit);
        }
    }

    private static void partsOfDeviceWordsTrap() {
        int[] places = {Asm.TIME, Asm.TIME + 4, Asm.LIMIT, Asm.LIMIT + 4, Asm.PORT};
        for (int place : places) {
            for (int f : READS) {
                if (f != 2) {
                    Program reading = new Program().set(1, place).add(Asm.read(f, 3, 1, 0));
                    trapped(reading.readyOn(BYTES, 9), "reading a part, f " + f + ", at " + place, 5, place);
                }
            }
            for (int f = 0; f < 2 && place != Asm.PORT; f++) {
                RvCore core = new Program().set(1, place).add(Asm.s(f, 1, 0, 0)).readyOn(BYTES, 9);
                trapped(core, "storing a part, f " + f + ", at " + place, 7, place);
                Due.due("told(1)", core.told(1), -1);
            }
        }
    }

    private static void timeIsWritten() {
        RvCore core = new Program().store(Asm.TIME, -1).doneOn(BYTES, 0);
        // Within run() TIME is one more behind the store as well.
        Due.due("told(0)", core.told(0), 0x100000000L);
    }

    private static void otherWordsAreIllegal() {
        for (int f = 0; f < 8; f++) {
            boolean read = f != 3 && f < 6;
            RvCore core = new Program().add(Asm.read(f, 3, 0, 0)).on(BYTES, 0);
            Due.due("step() of 0x03, f " + f, core.step(), read ? RvCore.RETIRED : RvCore.TRAPPED);
            Due.due("mcause", core.csr(Asm.MCAUSE), read ? 0 : 2);
            core = new Program().add(Asm.s(f, 0, 3, 64)).on(BYTES, 0);
            Due.due("step() of 0x23, f " + f, core.step(), f < 3 ? RvCore.RETIRED : RvCore.TRAPPED);
            Due.due("mcause", core.csr(Asm.MCAUSE), f < 3 ? 0 : 2);
        }
    }

    private static void changesItsOwnProgram() {
        Program program = new Program().set(1, Asm.addi(5, 0, 42)).add(Asm.s(2, 0, 1, 12), Asm.addi(5, 0, 1));
        Due.due("the stored instruction is done", program.doneOn(BYTES, 0).reg(5), 42);
    }
}
