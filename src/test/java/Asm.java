/** Makes the words of instructions. */
final class Asm {
    static final int CALL = 0x73, BREAK = 0x100073, BACK = 0x30200073, WAIT = 0x10500073, FENCE = 0x0F;
    static final int MSTATUS = 0x300, MISA = 0x301, MIE = 0x304, MTVEC = 0x305, MSCRATCH = 0x340, MEPC = 0x341,
            MCAUSE = 0x342, MTVAL = 0x343, MIP = 0x344, MHARTID = 0xF14;
    static final int[] LISTED = {MSTATUS, MISA, MIE, MTVEC, MSCRATCH, MEPC, MCAUSE, MTVAL, MIP, MHARTID};
    static final int TIME = 0x0200BFF8, LIMIT = 0x02004000, PORT = 0x10000000;

    private Asm() {
    }

    /** The bits from..to of a number, put at a place. */
    private static int bits(int number, int from, int to, int at) {
        int made = 0;
        for (int i = from; i <= to; i++) {
            made |= ((number >>> i) & 1) << (at + i - from);
        }
        return made;
    }

    static int r(int opcode, int d, int f, int s, int t, int g) {
        return opcode | d << 7 | f << 12 | s << 15 | t << 20 | g << 25;
    }

    static int i(int opcode, int d, int f, int s, int number) {
        return opcode | d << 7 | f << 12 | s << 15 | number << 20;
    }

    static int s(int f, int s, int t, int number) {
        return 0x23 | bits(number, 0, 4, 7) | f << 12 | s << 15 | t << 20 | bits(number, 5, 11, 25);
    }

    static int b(int f, int s, int t, int number) {
        return 0x63 | bits(number, 11, 11, 7) | bits(number, 1, 4, 8) | f << 12 | s << 15 | t << 20
                | bits(number, 5, 10, 25) | bits(number, 12, 12, 31);
    }

    static int j(int d, int number) {
        return 0x6F | d << 7 | bits(number, 12, 19, 12) | bits(number, 11, 11, 20) | bits(number, 1, 10, 21)
                | bits(number, 20, 20, 31);
    }

    static int lui(int d, int number) {
        return 0x37 | d << 7 | number & 0xFFFFF000;
    }

    static int auipc(int d, int number) {
        return 0x17 | d << 7 | number & 0xFFFFF000;
    }

    static int addi(int d, int s, int number) {
        return i(0x13, d, 0, s, number);
    }

    static int jalr(int d, int s, int number) {
        return i(0x67, d, 0, s, number);
    }

    static int read(int f, int d, int s, int number) {
        return i(0x03, d, f, s, number);
    }

    static int control(int f, int d, int s, int number) {
        return i(0x73, d, f, s, number);
    }
}
