/** Promise 11, and of promise 6 the opcode 0x73 with control registers. */
public final class ControlRegisterTest {
    private static final int[] NUMBERS = {0, -1, 0x55555555, 0xAAAAAAAA, 0x888, 0x80000007, 0x1234567B};

    public static void main(String[] args) {
        for (int number : Asm.LISTED) {
            if (number < 0xC00) {
                for (int value : NUMBERS) {
                    writes(number, value);
                }
            }
        }
        fromItsOwnRegister();
        writesNothingWithRegisterZero();
        writesZeroWithRegisterZero();
        readOnly();
        notListed();
        waysThatAreNone();
        timerBit();
        callOfNumbersNotListed();
        Due.end();
    }

    /** What a register holds behind the writing of a number. */
    private static int held(int number, int value) {
        switch (number) {
            case Asm.MSTATUS: return value & 0x88 | 0x1800;
            case Asm.MISA: return 0x40001100;
            case Asm.MIE: return value & 0x888;
            case Asm.MTVEC: return value & 0xFFFFFFFD;
            case Asm.MEPC: return value & 0xFFFFFFFC;
            case Asm.MCAUSE: return value & 0x8000000F;
            case Asm.MIP: return 0;
            default: return value;
        }
    }

    private static void writes(int number, int value) {
        for (int f = 1; f < 8; f++) {
            if (f == 4) {
                continue;
            }
            int first = held(number, 0x0F0F0F0F);
            int v = f < 4 ? value : 21;
            int s = f < 4 ? 7 : 21;
            RvCore core = new Program().set(7, value).control(number, 0x0F0F0F0F).add(Asm.control(f, 3, s, number))
                    .readyOn(64, 0);
            String text = "f " + f + " on " + Integer.toHexString(number) + " with " + Integer.toHexString(v);
            Due.due("csr() before " + text, core.csr(number), first);
            Due.due("step() of " + text, core.step(), RvCore.RETIRED);
            Due.due("d behind " + text, core.reg(3), first);
            int due = f % 4 == 1 ? v : f % 4 == 2 ? first | v : first & ~v;
            Due.due("csr() behind " + text, core.csr(number), held(number, due));
            Due.due("pc() behind " + text, core.pc(), 24);
            for (int other : Asm.LISTED) {
                if (other != number) {
                    Due.due("csr(" + other + ") behind " + text, core.csr(other), held(other, 0));
                }
            }
        }
    }

    private static void fromItsOwnRegister() {
        RvCore core = new Program().control(Asm.MSCRATCH, 77).set(7, 88).add(Asm.control(1, 7, 7, Asm.MSCRATCH))
                .doneOn(64, 0);
        Due.due("reg(7)", core.reg(7), 77);
        Due.due("csr(mscratch)", core.csr(Asm.MSCRATCH), 88);
    }

    private static void writesNothingWithRegisterZero() {
        int[] ways = {2, 3, 6, 7};
        for (int f : ways) {
            for (int number : Asm.LISTED) {
                RvCore core = new Program().add(Asm.control(f, 3, 0, number)).on(64, 0);
                Due.due("step() of f " + f + ", s 0, on " + number, core.step(), RvCore.RETIRED);
                Due.due("reg(3)", core.reg(3), held(number, 0));
                Due.due("csr()", core.csr(number), held(number, 0));
            }
        }
        // A register other than x0 is written even if it holds 0: what counts is s.
        RvCore core = new Program().add(Asm.control(2, 3, 5, Asm.MHARTID)).on(64, 0);
        Due.due("step() of f 2, x5 being 0, on mhartid", core.step(), RvCore.TRAPPED);
    }

    private static void writesZeroWithRegisterZero() {
        for (int f = 1; f <= 5; f += 4) {
            RvCore core = new Program().control(Asm.MSCRATCH, 77).add(Asm.control(f, 0, 0, Asm.MSCRATCH)).doneOn(64, 0);
            Due.due("csr(mscratch) behind f " + f + ", s 0", core.csr(Asm.MSCRATCH), 0);
        }
    }

    private static void readOnly() {
        for (int f = 1; f < 8; f++) {
            if (f != 4) {
                illegal(Asm.control(f, 3, 1, Asm.MHARTID));
            }
        }
        illegal(Asm.control(1, 3, 0, Asm.MHARTID));
        illegal(Asm.control(5, 3, 0, Asm.MHARTID));
    }

    private static void illegal(int word) {
        RvCore core = new Program().set(3, 5).add(word).readyOn(64, 0);
        String text = "0x" + Integer.toHexString(word);
        Due.due("step() of " + text, core.step(), RvCore.TRAPPED);
        Due.due("mcause of " + text, core.csr(Asm.MCAUSE), 2);
        Due.due("mtval of " + text, core.csr(Asm.MTVAL), word);
        Due.due("reg(3) of " + text, core.reg(3), 5);
    }

    private static boolean isListed(int number) {
        for (int listed : Asm.LISTED) {
            if (listed == number) {
                return true;
            }
        }
        return false;
    }

    private static void notListed() {
        for (int number = 0; number < 4096; number++) {
            RvCore core = new Program().add(Asm.control(2, 3, 0, number)).on(64, 0);
            int due = isListed(number) ? RvCore.RETIRED : RvCore.TRAPPED;
            Due.due("step() of reading " + number, core.step(), due);
            if (number % 97 == 0 && !isListed(number)) {
                illegal(Asm.control(1, 3, 1, number));
            }
        }
    }

    private static void waysThatAreNone() {
        illegal(Asm.control(4, 3, 1, Asm.MSCRATCH));
        illegal(Asm.control(4, 3, 0, Asm.MSCRATCH));
        illegal(Asm.control(0, 3, 1, Asm.MSCRATCH));
        int[] near = {Asm.CALL | 1 << 7, Asm.CALL | 1 << 15, 0x200073, Asm.BREAK | 1 << 7, Asm.BACK | 1 << 15,
                Asm.BACK | 1 << 7, Asm.WAIT | 1 << 7, Asm.WAIT | 1 << 15, 0x10200073, 0x00200073, 0x10400073, 0x30100073};
        for (int word : near) {
            illegal(word);
        }
    }

    private static void timerBit() {
        RvCore core = new Program().store(Asm.LIMIT + 4, 0).store(Asm.LIMIT, 13).control(Asm.MIP, -1)
                .add(Asm.control(2, 3, 0, Asm.MIP)).on(64, 0);
        core.run(10);
        Due.due("csr(mip) at 10 of 13", core.csr(Asm.MIP), 0);
        core.run(2);
        Due.due("csr(mip) at 12 of 13", core.csr(Asm.MIP), 0);
        core.run(1);
        Due.due("csr(mip) at 13 of 13", core.csr(Asm.MIP), 128);
        core.run(1);
        Due.due("reg(3)", core.reg(3), 128);
        Due.due("csr(mip) at 14 of 13", core.csr(Asm.MIP), 128);
        // Without sign: the largest LIMIT is below no TIME, and a TIME with the upper bit is above a small LIMIT.
        core = new Program().store(Asm.LIMIT + 4, 0).store(Asm.TIME + 4, 0x80000000).doneOn(64, 0);
        Due.due("csr(mip) with a large TIME", core.csr(Asm.MIP), 128);
        core = new Program().store(Asm.LIMIT + 4, 0x80000000).store(Asm.TIME + 4, 0x7FFFFFFF).doneOn(64, 0);
        Due.due("csr(mip) with a large LIMIT", core.csr(Asm.MIP), 0);
        core = new Program().store(Asm.TIME + 4, -1).store(Asm.TIME, -1).on(64, 0);
        for (int i = 0; i < 10; i++) {
            core.step();
        }
        Due.due("csr(mip), both all 1s", core.csr(Asm.MIP), 128);
        core.tick();
        Due.due("csr(mip) behind running over", core.csr(Asm.MIP), 0);
    }

    private static void callOfNumbersNotListed() {
        RvCore core = new Program().control(Asm.MSCRATCH, 77).doneOn(64, 0);
        int[] numbers = {0, 1, 0x2FF, 0x302, 0x303, 0x306, 0x345, 0xF13, 0xF15, 0xC00, 0xB00, 0x1340, -1,
                Asm.MSCRATCH - 4096, Asm.MSCRATCH | 0x80000000, Integer.MAX_VALUE, Integer.MIN_VALUE};
        for (int number : numbers) {
            Due.due("csr(" + number + ")", core.csr(number), 0);
        }
        Due.due("csr(mscratch)", core.csr(Asm.MSCRATCH), 77);
    }
}
