/** The edges of DEVICES, sentence by sentence. */
public final class DeviceEdgeTest {
    private static final int[] WORDS = {0x0200BFF8, 0x0200BFFC, 0x02004000, 0x02004004, 0x10000000};
    private static final int[] READS = {0, 1, 2, 4, 5};

    public static void main(String[] args) {
        wholeWordsAlone();
        alignedWordsAlone();
        neighbours();
        time();
        limit();
        portSends();
        portTakesAlone();
        portTellsItsRoom();
        notByTheCalls();
        Due.end();
    }

    private static void wholeWordsAlone() {
        Due.sentence("DEVICES, whole aligned words alone");
        for (int place : WORDS) {
            for (int f : READS) {
                if (f != 2) {
                    One.trapped("reading, f " + f, Asm.read(f, 3, 1, 0), place, 0, 5, place);
                    int upper = place + (f % 4 == 0 ? 3 : 2);
                    One.trapped("reading, f " + f, Asm.read(f, 3, 1, 0), upper, 0, 5, upper);
                }
            }
            for (int f = 0; f < 2 && place != Asm.PORT; f++) {
                untouched(One.trapped("storing, f " + f, Asm.s(f, 1, 2, 0), place, 0, 7, place));
            }
            untouched(One.trapped("storing a byte", Asm.s(0, 1, 2, 0), place + 1, 0, 7, place + 1));
            untouched(One.trapped("storing two", Asm.s(1, 1, 2, 0), place + 2, 0, 7, place + 2));
            untouched(One.trapped("storing a byte", Asm.s(0, 1, 2, 0), place + 3, 0, 7, place + 3));
        }
    }

    private static void untouched(RvCore core) {
        Due.due("told(0)", core.told(0), 9);
        Due.due("told(1)", core.told(1), -1);
        Due.due("outSize()", core.outSize(), 0);
    }

    private static void alignedWordsAlone() {
        Due.sentence("DEVICES, whole aligned words alone: TIME");
        for (int place : WORDS) {
            for (int more = 1; more < 4; more++) {
                One.trapped("reading four", Asm.read(2, 3, 1, 0), place + more, 0, 4, place + more);
                untouched(One.trapped("storing four", Asm.s(2, 1, 2, 0), place + more, 0, 6, place + more));
            }
            One.trapped("reading two", Asm.read(1, 3, 1, 0), place + 1, 0, 4, place + 1);
            untouched(One.trapped("storing two", Asm.s(1, 1, 2, 0), place + 3, 0, 6, place + 3));
        }
    }

    private static void neighbours() {
        Due.sentence("TIME at 0x0200BFF8 (its lower half), 0x0200BFFC; LIMIT at 0x02004000, 0x02004004. "
                + "The PORT at 0x10000000");
        int[] places = {0x0200BFF4, 0x0200C000, 0x02003FFC, 0x02004008, 0x0FFFFFFC, 0x10000004, 0x02000000, 0x8200BFF8,
                0x82004000, 0x90000000};
        for (int place : places) {
            One.trapped("reading four", Asm.read(2, 3, 1, 0), place, 0, 5, place);
            untouched(One.trapped("storing four", Asm.s(2, 1, 2, 0), place, 0, 7, place));
        }
    }

    /** Two halves come, one after the other, and are read again. */
    private static RvCore halves(int address, int upper, int lower) {
        return new Program().store(address + 4, upper).store(address, lower).set(1, address)
                .add(Asm.read(2, 4, 1, 4), Asm.read(2, 5, 1, 0)).steppedOn(128, 0);
    }

    private static void time() {
        Due.sentence("TIME at 0x0200BFF8 (its lower half), 0x0200BFFC");
        int[] numbers = {0, 1, -1, 0x80000000, 0x7FFFFFFF};
        for (int upper : numbers) {
            for (int lower : numbers) {
                RvCore core = halves(0x0200BFF8, upper, lower);
                String text = " of " + upper + ", " + lower;
                Due.due("told(0)" + text, core.told(0), (long) upper << 32 | lower & 0xFFFFFFFFL);
                Due.due("told(1)" + text, core.told(1), -1);
                Due.due("the upper half" + text, core.reg(4), upper);
                Due.due("the lower half" + text, core.reg(5), lower);
            }
        }
        // One half comes, and the other stays.
        RvCore core = new Program().timer(Asm.TIME, -1).store(Asm.TIME, 0).steppedOn(128, 0);
        Due.due("told(0) behind the lower half", core.told(0), 0xFFFFFFFF00000000L);
        core = new Program().timer(Asm.TIME, -1).store(Asm.TIME + 4, 0).steppedOn(128, 0);
        Due.due("told(0) behind the upper half", core.told(0), 0xFFFFFFFFL);
    }

    private static void limit() {
        Due.sentence("LIMIT at 0x02004000, 0x02004004");
        int[] numbers = {0, 1, -1, 0x80000000, 0x7FFFFFFF};
        for (int upper : numbers) {
            for (int lower : numbers) {
                RvCore core = halves(0x02004000, upper, lower);
                String text = " of " + upper + ", " + lower;
                Due.due("told(1)" + text, core.told(1), (long) upper << 32 | lower & 0xFFFFFFFFL);
                Due.due("told(0)" + text, core.told(0), 0);
                Due.due("the upper half" + text, core.reg(4), upper);
                Due.due("the lower half" + text, core.reg(5), lower);
            }
        }
        RvCore core = new Program().store(Asm.LIMIT, 0).steppedOn(128, 0);
        Due.due("told(1) behind the lower half", core.told(1), 0xFFFFFFFF00000000L);
        core = new Program().store(Asm.LIMIT + 4, 0).steppedOn(128, 0);
        Due.due("told(1) behind the upper half", core.told(1), 0xFFFFFFFFL);
    }

    private static void portSends() {
        Due.sentence("what is stored there (one, two, four bytes) sends its lowest byte");
        // Of each row: what is stored, what is sent.
        int[][] rows = {{0, 0}, {1, 1}, {127, 127}, {128, 128}, {255, 255}, {256, 0}, {0x1FF, 255}, {-1, 255},
                {-256, 0}, {0x80000000, 0}, {0x7FFFFFFF, 255}, {0x12345678, 0x78}};
        for (int[] row : rows) {
            for (int f = 0; f < 3; f++) {
                RvCore core = One.ready(Asm.s(f, 1, 2, 0), 0x10000000, row[0]);
                One.retires(core, "storing, f " + f);
                Due.due("outSize() behind f " + f, core.outSize(), 1);
                Due.due("out(0) behind f " + f + " of " + row[0], core.out(0), row[1]);
                Due.due("out(1) behind f " + f, core.out(1), -1);
            }
        }
        // x0 sends 0, and S counts.
        RvCore core = One.ready(Asm.s(0, 1, 0, -2048), 0x10000800, 9);
        One.retires(core, "storing at 0x10000800 - 2048");
        Due.due("outSize()", core.outSize(), 1);
        Due.due("out(0)", core.out(0), 0);
    }

    private static void portTakesAlone() {
        Due.sentence("what is stored there (one, two, four bytes)");
        for (int f = 3; f < 8; f++) {
            One.trapped("storing, f " + f, Asm.s(f, 1, 2, 0), Asm.PORT, 9, 2, Asm.s(f, 1, 2, 0));
        }
        // Reading sends nothing.
        RvCore core = One.ready(Asm.read(2, 3, 1, 0), Asm.PORT, 9);
        One.retires(core, "reading four");
        Due.due("outSize()", core.outSize(), 0);
    }

    private static void portTellsItsRoom() {
        Due.sentence("reading four gives how many bytes it would still take.");
        for (int port = 0; port < 4; port++) {
            Program program = new Program().set(1, Asm.PORT).add(Asm.read(2, 4, 1, 0));
            for (int sent = 1; sent <= port; sent++) {
                program.add(Asm.s(0, 1, 1, 0), Asm.read(2, 4 + sent, 1, 0));
            }
            RvCore core = program.doneOn(64, port);
            for (int sent = 0; sent <= port; sent++) {
                Due.due("room of " + port + " behind " + sent, core.reg(4 + sent), port - sent);
            }
        }
        RvCore core = new Program().set(1, Asm.PORT).add(Asm.s(0, 1, 1, 0), Asm.read(2, 3, 1, 0)).doneOn(64, 4096);
        Due.due("room of the largest behind a byte", core.reg(3), 4095);
    }

    /** MEMORY is meant by these, not DEVICES. */
    private static void notByTheCalls() {
        Due.sentence("MEMORY has a multiple of 4 bytes, from address 0 on");
        RvCore core = new RvCore(65536, 9);
        for (int place : WORDS) {
            Due.due("poke(" + place + ")", core.poke(place, 1), false);
            Due.due("load(" + place + ")", core.load(place, 1), false);
            Due.due("peek(" + place + ")", core.peek(place), -1);
            RvCore jumped = One.goes("a jump to " + place, Asm.jalr(3, 1, 0), place, 0, place);
            Due.due("step() there", jumped.step(), RvCore.TRAPPED);
            Due.due("mcause there", jumped.csr(Asm.MCAUSE), 1);
            Due.due("mtval there", jumped.csr(Asm.MTVAL), place);
        }
        Due.due("told(0)", core.told(0), 0);
        Due.due("told(1)", core.told(1), -1);
        Due.due("outSize()", core.outSize(), 0);
    }
}
