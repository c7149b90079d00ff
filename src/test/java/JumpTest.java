/** Promise 6: the opcodes 0x6F, 0x67, 0x63, and trap 0. */
public final class JumpTest {
    private static final int[] NUMBERS = {0, 1, -1, 5, 0x7FFFFFFF, 0x80000000};

    public static void main(String[] args) {
        jumps();
        jumpsByRegister();
        jumpsByItsOwnRegister();
        jumpsToTheOdd();
        jumpsPastTheEnd();
        branches();
        branchesFar();
        branchesToTheOdd();
        otherWordsAreIllegal();
        Due.end();
    }

    private static void jumps() {
        int[] offsets = {4, 8, -4, 0, 1024, 2048, 4096, 0x7FFFC, 0xFFFFC, -0x100000, 0x800, -2048, 0x55554, -0x55558};
        for (int offset : offsets) {
            RvCore core = new Program().add(Asm.FENCE, Asm.j(5, offset)).readyOn(64, 0);
            Due.due("step() of J " + offset, core.step(), RvCore.RETIRED);
            Due.due("pc() behind J " + offset, core.pc(), 4 + offset);
            Due.due("reg(5) behind J " + offset, core.reg(5), 8);
        }
    }

    private static void jumpsByRegister() {
        int[] offsets = {0, 1, 4, 5, -4, -3, 2047, 2044, -2048};
        for (int offset : offsets) {
            RvCore core = new Program().set(1, 0x2000).add(Asm.jalr(5, 1, offset)).readyOn(64, 0);
            int target = 0x2000 + offset & ~1;
            boolean trapped = target % 4 != 0;
            Due.due("step() of 0x67, I " + offset, core.step(), trapped ? RvCore.TRAPPED : RvCore.RETIRED);
            Due.due("pc() behind 0x67, I " + offset, core.pc(), trapped ? 0 : target);
            Due.due("reg(5) behind 0x67, I " + offset, core.reg(5), trapped ? 0 : 12);
            Due.due("mtval behind 0x67, I " + offset, core.csr(Asm.MTVAL), trapped ? target : 0);
        }
    }

    private static void jumpsByItsOwnRegister() {
        RvCore core = new Program().set(1, 0x40).add(Asm.jalr(1, 1, 8)).doneOn(64, 0);
        Due.due("pc() where d is s", core.pc(), 0x48);
        Due.due("reg(1) where d is s", core.reg(1), 12);
    }

    private static void jumpsToTheOdd() {
        trapsToTheOdd(new Program().set(5, 99).add(Asm.j(5, 6)), 14);
        trapsToTheOdd(new Program().set(5, 99).add(Asm.jalr(5, 0, 3)), 2);
        trapsToTheOdd(new Program().set(5, 99).add(Asm.jalr(5, 0, -2)), -2);
    }

    private static void trapsToTheOdd(Program program, int target) {
        RvCore core = program.readyOn(64, 0);
        Due.due("step() to " + target, core.step(), RvCore.TRAPPED);
        Due.due("mcause to " + target, core.csr(Asm.MCAUSE), 0);
        Due.due("mtval to " + target, core.csr(Asm.MTVAL), target);
        Due.due("mepc to " + target, core.csr(Asm.MEPC), 8);
        Due.due("reg(5) stays", core.reg(5), 99);
        Due.due("pc() to " + target, core.pc(), 0);
    }

    private static void jumpsPastTheEnd() {
        RvCore core = new Program().add(Asm.jalr(1, 0, -4)).doneOn(64, 0);
        Due.due("pc()", core.pc(), -4);
        Due.due("step() outside", core.step(), RvCore.TRAPPED);
        Due.due("mcause", core.csr(Asm.MCAUSE), 1);
        Due.due("mtval", core.csr(Asm.MTVAL), -4);
        Due.due("mepc", core.csr(Asm.MEPC), -4);
    }

    private static boolean taken(int f, int a, int b) {
        switch (f) {
            case 0: return a == b;
            case 1: return a != b;
            case 4: return a < b;
            case 5: return a >= b;
            case 6: return (a & 0xFFFFFFFFL) < (b & 0xFFFFFFFFL);
            default: return (a & 0xFFFFFFFFL) >= (b & 0xFFFFFFFFL);
        }
    }

    private static void branches() {
        int[] kinds = {0, 1, 4, 5, 6, 7};
        for (int f : kinds) {
            for (int a : NUMBERS) {
                for (int b : NUMBERS) {
                    RvCore core = new Program().set(1, a).set(2, b).add(Asm.b(f, 1, 2, 0x400)).readyOn(64, 0);
                    String text = "0x63, f " + f + " with " + a + ", " + b;
                    Due.due("step() of " + text, core.step(), RvCore.RETIRED);
                    Due.due("pc() behind " + text, core.pc(), taken(f, a, b) ? 16 + 0x400 : 20);
                }
            }
        }
    }

    private static void branchesFar() {
        int[] offsets = {4, 8, 16, 32, 64, 1024, 2048, 4092, -4, -8, -2048, -4096, 0x554, -0x558, 0};
        for (int offset : offsets) {
            RvCore core = new Program().add(Asm.FENCE, Asm.b(0, 0, 0, offset)).doneOn(64, 0);
            Due.due("pc() behind B " + offset, core.pc(), 4 + offset);
        }
    }

    private static void branchesToTheOdd() {
        RvCore core = new Program().add(Asm.FENCE, Asm.b(0, 0, 0, 10)).readyOn(64, 0);
        Due.due("step() of a branch to 14", core.step(), RvCore.TRAPPED);
        Due.due("mcause", core.csr(Asm.MCAUSE), 0);
        Due.due("mtval", core.csr(Asm.MTVAL), 14);
        Due.due("mepc", core.csr(Asm.MEPC), 4);
        core = new Program().add(Asm.FENCE, Asm.b(1, 0, 0, 10)).readyOn(64, 0);
        Due.due("step() of a branch to 14 that is not taken", core.step(), RvCore.RETIRED);
        Due.due("pc()", core.pc(), 8);
    }

    private static void otherWordsAreIllegal() {
        for (int f = 0; f < 8; f++) {
            RvCore core = new Program().add(Asm.b(f, 0, 0, 8)).on(64, 0);
            Due.due("step() of 0x63, f " + f, core.step(), f == 2 || f == 3 ? RvCore.TRAPPED : RvCore.RETIRED);
            Due.due("mcause", core.csr(Asm.MCAUSE), f == 2 || f == 3 ? 2 : 0);
            core = new Program().add(Asm.i(0x67, 1, f, 0, 8)).on(64, 0);
            Due.due("step() of 0x67, f " + f, core.step(), f == 0 ? RvCore.RETIRED : RvCore.TRAPPED);
            Due.due("mcause", core.csr(Asm.MCAUSE), f == 0 ? 0 : 2);
        }
    }
}
