import java.math.BigInteger;

/** Promise 6: the opcodes 0x37, 0x17, 0x13, 0x33, 0x0F. */
public final class ReckonTest {
    private static final int[] NUMBERS = {0, 1, 2, 3, 7, 31, 32, 33, 100, 0x7FF, 0x800, 0x12345678, 0x7FFFFFFF,
            0x80000000, 0x80000001, 0xFFFFFFFF, -2, -3, -7, -100, 0xFFFF0000, 0x55555555, 0xAAAAAAAA};
    private static final BigInteger WORD = BigInteger.ONE.shiftLeft(32);

    public static void main(String[] args) {
        for (int a : NUMBERS) {
            for (int b : NUMBERS) {
                withRegister(a, b);
                withNumber(a, b << 20 >> 20);
            }
        }
        written();
        upper();
        zeroStaysZero();
        fence();
        otherWordsAreIllegal();
        Due.end();
    }

    private static BigInteger big(int number, boolean sign) {
        return BigInteger.valueOf(sign ? number : number & 0xFFFFFFFFL);
    }

    private static int reckoned(int f, int g, int a, int b) {
        int by = b & 31;
        switch (f + 8 * g) {
            case 0: return big(a, true).add(big(b, true)).intValue();
            case 1: return big(a, false).shiftLeft(by).intValue();
            case 2: return big(a, true).compareTo(big(b, true)) < 0 ? 1 : 0;
            case 3: return big(a, false).compareTo(big(b, false)) < 0 ? 1 : 0;
            case 4: return big(a, true).xor(big(b, true)).intValue();
            case 5: return big(a, false).shiftRight(by).intValue();
            case 6: return big(a, true).or(big(b, true)).intValue();
            case 7: return big(a, true).and(big(b, true)).intValue();
            case 8: return big(a, true).multiply(big(b, true)).intValue();
            case 9: return big(a, true).multiply(big(b, true)).shiftRight(32).intValue();
            case 10: return big(a, true).multiply(big(b, false)).shiftRight(32).intValue();
            case 11: return big(a, false).multiply(big(b, false)).divide(WORD).intValue();
            case 12: return b == 0 ? -1 : big(a, true).divide(big(b, true)).intValue();
            case 13: return b == 0 ? -1 : big(a, false).divide(big(b, false)).intValue();
            case 14: return b == 0 ? a : big(a, true).remainder(big(b, true)).intValue();
            case 15: return b == 0 ? a : big(a, false).remainder(big(b, false)).intValue();
            case 256: return big(a, true).subtract(big(b, true)).intValue();
            case 256 + 5: return big(a, true).shiftRight(by).intValue();
            default: throw new IllegalStateException();
        }
    }

    private static void look(String text, int word, int a, int b, int due) {
        RvCore core = new Program().set(1, a).set(2, b).add(word).readyOn(64, 0);
        Due.due("step() of " + text, core.step(), RvCore.RETIRED);
        Due.due(text + " with " + a + ", " + b, core.reg(3), due);
        Due.due("pc() behind " + text, core.pc(), 20);
        Due.due("reg(1) behind " + text, core.reg(1), a);
        Due.due("reg(2) behind " + text, core.reg(2), b);
    }

    private static void withRegister(int a, int b) {
        for (int f = 0; f < 8; f++) {
            for (int g = 0; g <= 1; g++) {
                look("0x33, f " + f + ", g " + g, Asm.r(0x33, 3, f, 1, 2, g), a, b, reckoned(f, g, a, b));
            }
        }
        look("0x33, f 0, g 32", Asm.r(0x33, 3, 0, 1, 2, 32), a, b, reckoned(0, 32, a, b));
        look("0x33, f 5, g 32", Asm.r(0x33, 3, 5, 1, 2, 32), a, b, reckoned(5, 32, a, b));
    }

    private static void withNumber(int a, int number) {
        for (int f = 0; f < 8; f++) {
            if (f != 1 && f != 5) {
                look("0x13, f " + f + ", I " + number, Asm.i(0x13, 3, f, 1, number), a, 99, reckoned(f, 0, a, number));
            }
        }
        int t = number & 31;
        look("0x13, f 1, t " + t, Asm.r(0x13, 3, 1, 1, t, 0), a, 99, reckoned(1, 0, a, t));
        look("0x13, f 5, t " + t, Asm.r(0x13, 3, 5, 1, t, 0), a, 99, reckoned(5, 0, a, t));
        look("0x13, f 5, g 32, t " + t, Asm.r(0x13, 3, 5, 1, t, 32), a, 99, reckoned(5, 32, a, t));
    }

    /** Some answers written out, so that the test does not hang on the reckoning above alone. */
    private static void written() {
        int least = Integer.MIN_VALUE;
        look("least / -1", Asm.r(0x33, 3, 4, 1, 2, 1), least, -1, least);
        look("rest of least / -1", Asm.r(0x33, 3, 6, 1, 2, 1), least, -1, 0);
        look("7 / 0", Asm.r(0x33, 3, 4, 1, 2, 1), 7, 0, -1);
        look("7 / 0 without signs", Asm.r(0x33, 3, 5, 1, 2, 1), 7, 0, -1);
        look("rest of -7 / 0", Asm.r(0x33, 3, 6, 1, 2, 1), -7, 0, -7);
        look("rest of -7 / 0 without signs", Asm.r(0x33, 3, 7, 1, 2, 1), -7, 0, -7);
        look("-7 / 2", Asm.r(0x33, 3, 4, 1, 2, 1), -7, 2, -3);
        look("rest of -7 / 2", Asm.r(0x33, 3, 6, 1, 2, 1), -7, 2, -1);
        look("-7 / 2 without signs", Asm.r(0x33, 3, 5, 1, 2, 1), -7, 2, 0x7FFFFFFC);
        look("upper of -1 * -1", Asm.r(0x33, 3, 1, 1, 2, 1), -1, -1, 0);
        look("upper of -1 * -1, b without", Asm.r(0x33, 3, 2, 1, 2, 1), -1, -1, -1);
        look("upper of -1 * -1, both without", Asm.r(0x33, 3, 3, 1, 2, 1), -1, -1, -2);
        look("-1 below 1", Asm.r(0x33, 3, 2, 1, 2, 0), -1, 1, 1);
        look("-1 below 1 without sign", Asm.r(0x33, 3, 3, 1, 2, 0), -1, 1, 0);
        look("0 below I -1 without sign", Asm.i(0x13, 3, 3, 1, -1), 0, 0, 1);
        look("a to the left by 33", Asm.r(0x33, 3, 1, 1, 2, 0), 3, 33, 6);
    }

    private static void upper() {
        int[] numbers = {0, 0x1000, 0x7FFFF000, 0x80000000, 0xFFFFF000};
        for (int number : numbers) {
            RvCore core = new Program().add(Asm.FENCE, Asm.lui(5, number), Asm.auipc(6, number)).doneOn(64, 0);
            Due.due("0x37 with " + number, core.reg(5), number);
            Due.due("0x17 with " + number, core.reg(6), number + 8);
        }
    }

    private static void zeroStaysZero() {
        RvCore core = new Program().set(1, 77).add(Asm.lui(0, 0x1000), Asm.auipc(0, 0x1000), Asm.addi(0, 1, 5),
                Asm.r(0x33, 0, 0, 1, 1, 0), Asm.read(2, 0, 0, 0), Asm.control(1, 0, 1, Asm.MSCRATCH),
                Asm.control(1, 0, 1, Asm.MSCRATCH), Asm.j(0, 4), Asm.addi(2, 0, 1)).doneOn(64, 0);
        Due.due("reg(0)", core.reg(0), 0);
        Due.due("x0 + 1", core.reg(2), 1);
    }

    private static void fence() {
        int[] words = {Asm.FENCE, 0x0FF0000F, 0xFFFF8F8F & ~0x7000};
        for (int word : words) {
            RvCore core = new Program().add(word).on(64, 0);
            Due.due("step() of 0x0F", core.step(), RvCore.RETIRED);
            Due.due("pc()", core.pc(), 4);
            for (int i = 0; i < 32; i++) {
                Due.due("reg(" + i + ")", core.reg(i), 0);
            }
        }
    }

    private static void otherWordsAreIllegal() {
        for (int g = 0; g < 128; g++) {
            for (int f = 0; f < 8; f++) {
                boolean register = g == 0 || g == 1 || g == 32 && (f == 0 || f == 5);
                boolean number = f == 1 ? g == 0 : f != 5 || g == 0 || g == 32;
                legal(Asm.r(0x33, 3, f, 0, 0, g), register);
                legal(Asm.r(0x13, 3, f, 0, 0, g), number);
            }
        }
        for (int f = 0; f < 8; f++) {
            legal(Asm.i(0x0F, 0, f, 0, 0), f == 0);
        }
    }

    private static void legal(int word, boolean due) {
        RvCore core = new Program().add(word).on(64, 0);
        String text = "step() of 0x" + Integer.toHexString(word);
        Due.due(text, core.step(), due ? RvCore.RETIRED : RvCore.TRAPPED);
        Due.due(text + ", mcause", core.csr(Asm.MCAUSE), due ? 0 : 2);
        Due.due(text + ", mtval", core.csr(Asm.MTVAL), due ? 0 : word);
    }
}
