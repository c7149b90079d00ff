/** The edges of INSTRUCTIONS, sentence by sentence: all but those of opcode 0x73. */
public final class InstructionEdgeTest {
    private static final int LEAST = 0x80000000, GREATEST = 0x7FFFFFFF;

    public static void main(String[] args) {
        placeGoesOn();
        uppers();
        jumps();
        jumpsByRegister();
        branches();
        branchesWithoutSign();
        reads();
        stores();
        addsAndCompares();
        bitwise();
        shiftsByNumber();
        reckonsWithRegister();
        shiftsByRegister();
        subtracts();
        multiplies();
        divides();
        dividesByZero();
        dividesTheLeast();
        fences();
        otherWords();
        Due.end();
    }

    private static void placeGoesOn() {
        Due.sentence("PC becomes PC + 4, where nothing else is said.");
        int[] words = {Asm.lui(3, 0), Asm.auipc(3, 0), Asm.b(1, 0, 0, 64), Asm.read(2, 3, 0, 0), Asm.s(2, 0, 3, 64),
                Asm.addi(3, 3, 1), Asm.r(0x33, 3, 0, 1, 2, 0), Asm.r(0x33, 3, 4, 1, 2, 1), Asm.FENCE, Asm.WAIT,
                Asm.control(1, 3, 1, Asm.MEPC), Asm.control(2, 3, 0, Asm.MIP)};
        for (int word : words) {
            One.goes("0x" + Integer.toHexString(word), word, 5, 7, One.PLACE + 4);
        }
        // At the last word of MEMORY too, where no instruction follows.
        RvCore core = new Program().add(Asm.jalr(0, 0, 60)).on(64, 0);
        core.load(60, Asm.FENCE);
        Due.due("run(2)", core.run(2), 2);
        Due.due("pc()", core.pc(), 64);
    }

    private static void uppers() {
        Due.sentence("0x37: d becomes U. 0x17: PC + U.");
        One.gives("0x37 with 0", Asm.lui(3, 0), 0, 0, 0);
        One.gives("0x37 with the most", Asm.lui(3, 0xFFFFF000), 0, 0, 0xFFFFF000);
        One.gives("0x17 with 0", Asm.auipc(3, 0), 0, 0, One.PLACE);
        One.gives("0x17 with the most", Asm.auipc(3, 0xFFFFF000), 0, 0, One.PLACE - 0x1000);
        One.gives("0x17 with the uppermost bit", Asm.auipc(3, LEAST), 0, 0, LEAST + One.PLACE);
    }

    private static void jumps() {
        Due.sentence("0x6F: d becomes PC + 4, PC PC + J.");
        RvCore core = One.goes("a jump to itself", Asm.j(3, 0), 0, 0, One.PLACE);
        Due.due("x3", core.reg(3), One.PLACE + 4);
        core = One.goes("a jump to the next", Asm.j(3, 4), 0, 0, One.PLACE + 4);
        Due.due("x3", core.reg(3), One.PLACE + 4);
        core = One.goes("a jump back", Asm.j(3, -One.PLACE), 0, 0, 0);
        Due.due("x3", core.reg(3), One.PLACE + 4);
        // Where no instruction is, the jump is still RETIRED: the trap comes with the next step.
        core = One.goes("a jump past MEMORY", Asm.j(3, One.BYTES - One.PLACE), 0, 0, One.BYTES);
        Due.due("x3", core.reg(3), One.PLACE + 4);
    }

    private static void jumpsByRegister() {
        Due.sentence("0x67, f 0: likewise, PC a + I without its lowest bit (a as before).");
        int[][] rows = {{0, 0, 0}, {1, 0, 0}, {5, 0, 4}, {4, 1, 4}, {1, 3, 4}, {8, -3, 4}, {-1, 1, 0}, {-1, 6, 4},
                {0, -3, -4}, {LEAST, 1, LEAST}, {GREATEST, -2, GREATEST - 3}};
        for (int[] row : rows) {
            RvCore core = One.goes(row[0] + " + " + row[1], Asm.jalr(3, 1, row[1]), row[0], 0, row[2]);
            Due.due("x3", core.reg(3), One.PLACE + 4);
        }
        RvCore core = One.goes("d being s", Asm.jalr(1, 1, 8), 0x100, 0, 0x108);
        Due.due("x1", core.reg(1), One.PLACE + 4);
        for (int f = 1; f < 8; f++) {
            One.illegal(Asm.i(0x67, 3, f, 1, 0));
        }
    }

    private static void branch(int f, int a, int b, boolean taken) {
        One.goes("0x63, f " + f + " with " + a + ", " + b, Asm.b(f, 1, 2, 64), a, b, One.PLACE + (taken ? 64 : 4));
    }

    private static void branches() {
        Due.sentence("0x63: PC becomes PC + B, if f 0 a = b, 1 not so, 4 a below b, 5 not so");
        // Of each row: a, b, whether they are equal, whether a is below b.
        int[][] rows = {{0, 0, 1, 0}, {5, 6, 0, 1}, {6, 5, 0, 0}, {-1, 0, 0, 1}, {0, -1, 0, 0}, {LEAST, GREATEST, 0, 1},
                {GREATEST, LEAST, 0, 0}, {LEAST, LEAST, 1, 0}, {LEAST, 0, 0, 1}, {-1, -1, 1, 0}, {-2, -1, 0, 1}};
        for (int[] row : rows) {
            branch(0, row[0], row[1], row[2] == 1);
            branch(1, row[0], row[1], row[2] == 0);
            branch(4, row[0], row[1], row[3] == 1);
            branch(5, row[0], row[1], row[3] == 0);
        }
        One.illegal(Asm.b(2, 1, 2, 64));
        One.illegal(Asm.b(3, 1, 2, 64));
    }

    private static void branchesWithoutSign() {
        Due.sentence("6 a below b both without sign, 7 not so.");
        // Of each row: a, b, whether a is below b.
        int[][] rows = {{0, 0, 0}, {5, 6, 1}, {6, 5, 0}, {-1, 0, 0}, {0, -1, 1}, {LEAST, GREATEST, 0},
                {GREATEST, LEAST, 1}, {LEAST, LEAST, 0}, {-1, -1, 0}, {-2, -1, 1}, {-1, -2, 0}};
        for (int[] row : rows) {
            branch(6, row[0], row[1], row[2] == 1);
            branch(7, row[0], row[1], row[2] == 0);
        }
    }

    private static void reads() {
        Due.sentence("0x03: d becomes what is at a + I: f 0 a byte, 1 two bytes, both with sign, 2 four, "
                + "4 a byte, 5 two, both without.");
        // Of each row: what is there, and what f 0, 1, 2, 4, 5 give.
        int[][] rows = {{0, 0, 0, 0, 0, 0}, {0x7F, 0x7F, 0x7F, 0x7F, 0x7F, 0x7F},
                {0x80, -128, 0x80, 0x80, 0x80, 0x80}, {0xFF, -1, 0xFF, 0xFF, 0xFF, 0xFF},
                {0x100, 0, 0x100, 0x100, 0, 0x100}, {0x7FFF, -1, 0x7FFF, 0x7FFF, 0xFF, 0x7FFF},
                {0x8000, 0, -0x8000, 0x8000, 0, 0x8000}, {0xFFFF, -1, -1, 0xFFFF, 0xFF, 0xFFFF},
                {0x10000, 0, 0, 0x10000, 0, 0}, {GREATEST, -1, -1, GREATEST, 0xFF, 0xFFFF}, {LEAST, 0, 0, LEAST, 0, 0},
                {-1, -1, -1, -1, 0xFF, 0xFFFF}};
        int[] ways = {0, 1, 2, 4, 5};
        for (int[] row : rows) {
            for (int i = 0; i < ways.length; i++) {
                RvCore core = One.ready(Asm.read(ways[i], 3, 1, 4), 0x3FC, 0);
                core.load(0x400, row[0]);
                One.retires(core, "reading, f " + ways[i]);
                Due.due("f " + ways[i] + " of " + row[0], core.reg(3), row[i + 1]);
            }
        }
        int[] others = {3, 6, 7};
        for (int f : others) {
            One.illegal(Asm.read(f, 3, 1, 4));
        }
    }

    private static void stores() {
        Due.sentence("0x23: at a + S comes of b: f 0 a byte, 1 two, 2 four.");
        int[] numbers = {0, -1, 0xFF, 0x100, 0xFFFF, 0x10000, LEAST, 0x12345678};
        for (int number : numbers) {
            for (int f = 0; f < 3; f++) {
                RvCore core = One.ready(Asm.s(f, 1, 2, 4), 0x3FC, number);
                for (int i = -1; i < 5; i++) {
                    core.poke(0x400 + i, 0xA5);
                }
                One.retires(core, "storing, f " + f);
                for (int i = -1; i < 5; i++) {
                    int due = i < 0 || i >= 1 << f ? 0xA5 : (number >>> 8 * i) & 255;
                    Due.due("peek(0x400 + " + i + ") behind f " + f + " of " + number, core.peek(0x400 + i), due);
                }
                Due.due("x3 stays", core.reg(3), One.KEPT);
            }
        }
        for (int f = 3; f < 8; f++) {
            One.illegal(Asm.s(f, 1, 2, 4));
        }
    }

    private static void withNumber(int f, int a, int number, int due) {
        One.gives("0x13, f " + f + " with " + a + ", " + number, Asm.i(0x13, 3, f, 1, number), a, 0, due);
    }

    private static void addsAndCompares() {
        Due.sentence("0x13, with I as b: f 0 a + b, 2 whether a is below b (1, 0), 3 so without sign");
        // Of each row: a, I, and what f 0, 2, 3 give.
        int[][] rows = {{0, 0, 0, 0, 0}, {GREATEST, 1, LEAST, 0, 0}, {LEAST, -1, GREATEST, 1, 1}, {-1, 1, 0, 1, 0},
                {0, -1, -1, 0, 1}, {-1, -1, -2, 0, 0}, {-2, -1, -3, 1, 1}, {2046, 2047, 4093, 1, 1},
                {2047, 2047, 4094, 0, 0}, {2048, 2047, 4095, 0, 0}, {-2048, -2048, -4096, 0, 0},
                {-2049, -2048, -4097, 1, 1}, {LEAST, 0, LEAST, 1, 0}, {0x80000000, 2047, 0x800007FF, 1, 0}};
        for (int[] row : rows) {
            withNumber(0, row[0], row[1], row[2]);
            withNumber(2, row[0], row[1], row[3]);
            withNumber(3, row[0], row[1], row[4]);
        }
    }

    private static void bitwise() {
        Due.sentence("4 a xor b, 6 or, 7 and");
        // Of each row: a, I, and what f 4, 6, 7 give.
        int[][] rows = {{0, 0, 0, 0, 0}, {-1, -1, 0, -1, -1}, {0, -1, -1, -1, 0}, {-1, 0, -1, -1, 0},
                {0x12345678, 0x7FF, 0x12345187, 0x123457FF, 0x678},
                {0x12345678, -2048, 0xEDCBAE78, 0xFFFFFE78, 0x12345000}};
        for (int[] row : rows) {
            withNumber(4, row[0], row[1], row[2]);
            withNumber(6, row[0], row[1], row[3]);
            withNumber(7, row[0], row[1], row[4]);
        }
    }

    private static void shiftsByNumber() {
        Due.sentence("1 (g 0) a to the left by t, 5 to the right by t: 0s come (g 0), or its sign (g 32).");
        // Of each row: a, t, and what the three ways give.
        int[][] rows = {{0x12345678, 0, 0x12345678, 0x12345678, 0x12345678}, {1, 31, LEAST, 0, 0}, {3, 31, LEAST, 0, 0},
                {-1, 31, LEAST, 1, -1}, {LEAST, 31, 0, 1, -1}, {GREATEST, 31, LEAST, 0, 0},
                {LEAST, 1, 0, 0x40000000, 0xC0000000},
                {GREATEST, 30, 0xC0000000, 1, 1}, {-2, 0, -2, -2, -2}, {-1, 16, 0xFFFF0000, 0xFFFF, -1}};
        for (int[] row : rows) {
            String text = row[0] + " by " + row[1];
            One.gives(text + " to the left", Asm.r(0x13, 3, 1, 1, row[1], 0), row[0], 0, row[2]);
            One.gives(text + " to the right", Asm.r(0x13, 3, 5, 1, row[1], 0), row[0], 0, row[3]);
            One.gives(text + " with its sign", Asm.r(0x13, 3, 5, 1, row[1], 32), row[0], 0, row[4]);
        }
        int[] others = {1, 2, 16, 31, 33, 48, 64, 96, 127};
        for (int g : others) {
            One.illegal(Asm.r(0x13, 3, 1, 1, 4, g));
            One.illegal(Asm.r(0x13, 3, 5, 1, 4, g));
        }
        One.illegal(Asm.r(0x13, 3, 1, 1, 4, 32));
    }

    private static void withRegister(int f, int g, int a, int b, int due) {
        One.gives("0x33, f " + f + ", g " + g + " with " + a + ", " + b, Asm.r(0x33, 3, f, 1, 2, g), a, b, due);
    }

    private static void reckonsWithRegister() {
        Due.sentence("0x33: the same with b = x[t]");
        // Of each row: a, b, and what f 0, 2, 3, 4, 6, 7 give.
        int[][] rows = {{0, 0, 0, 0, 0, 0, 0, 0}, {GREATEST, 1, LEAST, 0, 0, 0x7FFFFFFE, GREATEST, 1},
                {LEAST, LEAST, 0, 0, 0, 0, LEAST, LEAST}, {LEAST, GREATEST, -1, 1, 0, -1, -1, 0},
                {GREATEST, LEAST, -1, 0, 1, -1, -1, 0}, {-1, 0, -1, 1, 0, -1, -1, 0}, {0, -1, -1, 0, 1, -1, -1, 0},
                {-1, -1, -2, 0, 0, 0, -1, -1}, {4095, 4096, 8191, 1, 1, 8191, 8191, 0}};
        int[] ways = {0, 2, 3, 4, 6, 7};
        for (int[] row : rows) {
            for (int i = 0; i < ways.length; i++) {
                withRegister(ways[i], 0, row[0], row[1], row[i + 2]);
            }
        }
    }

    private static void shiftsByRegister() {
        Due.sentence("t being the lowest five bits of b, g 0 (f 5: 0, 32)");
        // Of each row: b, and what 0x80000006 gives by f 1, f 5 and f 5 with g 32.
        int[][] rows = {{0, 0x80000006, 0x80000006, 0x80000006}, {1, 12, 0x40000003, 0xC0000003}, {31, 0, 1, -1},
                {32, 0x80000006, 0x80000006, 0x80000006}, {33, 12, 0x40000003, 0xC0000003}, {63, 0, 1, -1},
                {-1, 0, 1, -1}, {-32, 0x80000006, 0x80000006, 0x80000006},
                {LEAST + 1, 12, 0x40000003, 0xC0000003},
                {0x100, 0x80000006, 0x80000006, 0x80000006}};
        for (int[] row : rows) {
            withRegister(1, 0, 0x80000006, row[0], row[1]);
            withRegister(5, 0, 0x80000006, row[0], row[2]);
            withRegister(5, 32, 0x80000006, row[0], row[3]);
        }
        int[] others = {2, 16, 31, 33, 48, 64, 127};
        for (int f = 0; f < 8; f++) {
            for (int g : others) {
                One.illegal(Asm.r(0x33, 3, f, 1, 2, g));
            }
        }
    }

    private static void subtracts() {
        Due.sentence("f 0, g 32: a - b.");
        int[][] rows = {{0, 0, 0}, {0, 1, -1}, {LEAST, 1, GREATEST}, {GREATEST, -1, LEAST}, {0, LEAST, LEAST},
                {LEAST, LEAST, 0}, {-1, GREATEST, LEAST}};
        for (int[] row : rows) {
            withRegister(0, 32, row[0], row[1], row[2]);
        }
        int[] others = {1, 2, 3, 4, 6, 7};
        for (int f : others) {
            One.illegal(Asm.r(0x33, 3, f, 1, 2, 32));
        }
    }

    private static void multiplies() {
        Due.sentence("0x33, g 1: f 0 a b; 1 the upper 32 bits of a b with signs, 2 a with, b without, 3 both without");
        // Of each row: a, b, and what f 0 .. 3 give.
        int[][] rows = {{0, -1, 0, 0, 0, 0}, {-1, 0, 0, 0, 0, 0}, {-1, -1, 1, 0, -1, -2},
                {LEAST, LEAST, 0, 0x40000000, 0xC0000000, 0x40000000},
                {LEAST, -1, LEAST, 0, LEAST, GREATEST}, {-1, LEAST, LEAST, 0, -1, GREATEST},
                {GREATEST, GREATEST, 1, 0x3FFFFFFF, 0x3FFFFFFF, 0x3FFFFFFF},
                {LEAST, GREATEST, LEAST, 0xC0000000, 0xC0000000, 0x3FFFFFFF},
                {GREATEST, LEAST, LEAST, 0xC0000000, 0x3FFFFFFF, 0x3FFFFFFF}, {1, -1, -1, -1, 0, 0},
                {-1, 1, -1, -1, -1, 0}, {65536, 65536, 0, 1, 1, 1}};
        for (int[] row : rows) {
            for (int f = 0; f < 4; f++) {
                withRegister(f, 1, row[0], row[1], row[f + 2]);
            }
        }
    }

    private static void divides() {
        Due.sentence("4 a / b towards 0, 5 so without signs, 6 the rest that goes with 4, 7 with 5.");
        // Of each row: a, b, and what f 4 .. 7 give.
        int[][] rows = {{7, 2, 3, 3, 1, 1}, {-7, 2, -3, 0x7FFFFFFC, -1, 1}, {7, -2, -3, 0, 1, 7},
                {-7, -2, 3, 0, -1, -7}, {1, 2, 0, 0, 1, 1}, {-1, 2, 0, GREATEST, -1, 1}, {0, -1, 0, 0, 0, 0},
                {-1, -1, 1, 1, 0, 0}, {-1, 1, -1, -1, 0, 0}, {GREATEST, -1, -GREATEST, 0, 0, GREATEST},
                {LEAST, 1, LEAST, LEAST, 0, 0}, {LEAST, 2, 0xC0000000, 0x40000000, 0, 0},
                {GREATEST, LEAST, 0, 0, GREATEST, GREATEST}, {LEAST, GREATEST, -1, 1, -1, 1},
                {LEAST, LEAST, 1, 1, 0, 0}};
        for (int[] row : rows) {
            for (int f = 4; f < 8; f++) {
                withRegister(f, 1, row[0], row[1], row[f - 2]);
            }
        }
    }

    private static void dividesByZero() {
        Due.sentence("By 0: quotient -1, in bits; rest a.");
        int[] numbers = {0, 1, -1, 7, -7, LEAST, GREATEST};
        for (int a : numbers) {
            withRegister(4, 1, a, 0, -1);
            withRegister(5, 1, a, 0, -1);
            withRegister(6, 1, a, 0, a);
            withRegister(7, 1, a, 0, a);
        }
    }

    private static void dividesTheLeast() {
        Due.sentence("The least number by -1: itself, rest 0.");
        withRegister(4, 1, LEAST, -1, LEAST);
        withRegister(6, 1, LEAST, -1, 0);
        // Without signs these bits are other numbers.
        withRegister(5, 1, LEAST, -1, 0);
        withRegister(7, 1, LEAST, -1, LEAST);
    }

    private static void fences() {
        Due.sentence("0x0F, f 0: nothing.");
        int[] words = {0x0000000F, 0x0FF0000F, 0x0000018F, 0xFFFF8F8F};
        for (int word : words) {
            One.gives("0x" + Integer.toHexString(word), word, 5, 7, One.KEPT);
        }
        for (int f = 1; f < 8; f++) {
            One.illegal(Asm.i(0x0F, 0, f, 0, 0));
        }
    }

    private static boolean isOpcode(int opcode) {
        int[] listed = {0x37, 0x17, 0x6F, 0x67, 0x63, 0x03, 0x23, 0x13, 0x33, 0x0F, 0x73};
        for (int one : listed) {
            if (one == opcode) {
                return true;
            }
        }
        return false;
    }

    private static void otherWords() {
        Due.sentence("All other words are ILLEGAL");
        One.illegal(0);
        One.illegal(-1);
        for (int opcode = 0; opcode < 128; opcode++) {
            if (!isOpcode(opcode)) {
                One.illegal(opcode);
                One.illegal(0xFFFFFF80 | opcode);
            }
        }
    }
}
