/** Promise 6: TRAPS, the way back, INTERRUPT, waiting, REFUSED. */
public final class TrapTest {
    public static void main(String[] args) {
        traps();
        trapsKeepTheSwitch();
        goesBack();
        unknownWordsAreIllegal();
        interrupts();
        interruptsNotWithoutEach();
        interruptsBeforeTheInstruction();
        interruptsEndWaiting();
        waits();
        wakesWithoutInterrupt();
        wakesToATrap();
        refuses();
        refusalLeavesTheWaiting();
        Due.end();
    }

    private static void entered(RvCore core, String text, int place, int cause, int value, int pc) {
        Due.due("mepc of " + text, core.csr(Asm.MEPC), place);
        Due.due("mcause of " + text, core.csr(Asm.MCAUSE), cause);
        Due.due("mtval of " + text, core.csr(Asm.MTVAL), value);
        Due.due("pc() of " + text, core.pc(), pc);
    }

    private static void traps() {
        for (int low = 0; low < 2; low++) {
            // mtvec's lowest bit makes no difference to a trap.
            int[] words = {Asm.CALL, Asm.BREAK, 0, -1};
            int[] causes = {11, 3, 2, 2};
            int[] values = {0, 24, 0, -1};
            for (int i = 0; i < words.length; i++) {
                RvCore core = new Program().control(Asm.MTVEC, 0x200 + low).control(Asm.MTVAL, 5).add(words[i])
                        .readyOn(64, 0);
                String text = "0x" + Integer.toHexString(words[i]);
                Due.due("step() of " + text, core.step(), RvCore.TRAPPED);
                entered(core, text, 24, causes[i], values[i], 0x200);
                Due.due("told(2)", core.told(2), 6);
                Due.due("told(4)", core.told(4), RvCore.TRAPPED);
            }
        }
        RvCore core = new Program().control(Asm.MTVEC, 0x200).add(Asm.jalr(0, 0, 64)).doneOn(64, 0);
        Due.due("step() outside", core.step(), RvCore.TRAPPED);
        entered(core, "no instruction", 64, 1, 64, 0x200);
        Due.due("step() where the trap leads", core.step(), RvCore.TRAPPED);
        entered(core, "no instruction there", 0x200, 1, 0x200, 0x200);
    }

    private static void trapsKeepTheSwitch() {
        for (int status = 0; status < 4; status++) {
            int on = status & 1;
            int was = status >> 1;
            RvCore core = new Program().control(Asm.MSTATUS, on << 3 | was << 7).add(Asm.CALL).readyOn(64, 0);
            core.step();
            Due.due("mstatus behind a trap of " + status, core.csr(Asm.MSTATUS), 0x1800 | on << 7);
        }
    }

    private static void goesBack() {
        for (int status = 0; status < 4; status++) {
            int on = status & 1;
            int was = status >> 1;
            RvCore core = new Program().control(Asm.MEPC, 0x237).control(Asm.MSTATUS, on << 3 | was << 7).add(Asm.BACK)
                    .readyOn(64, 0);
            Due.due("step() of BACK", core.step(), RvCore.RETIRED);
            Due.due("pc() behind BACK", core.pc(), 0x234);
            Due.due("mstatus behind BACK of " + status, core.csr(Asm.MSTATUS), 0x1880 | was << 3);
            Due.due("mepc behind BACK", core.csr(Asm.MEPC), 0x234);
            Due.due("told(2) behind BACK", core.told(2), 7);
        }
    }

    private static void unknownWordsAreIllegal() {
        int known = 0;
        for (int opcode = 0; opcode < 128; opcode++) {
            RvCore core = new Program().set(1, 5).add(opcode).readyOn(64, 0);
            if (core.step() == RvCore.TRAPPED && core.csr(Asm.MCAUSE) == 2) {
                Due.due("mtval of opcode " + opcode, core.csr(Asm.MTVAL), opcode);
            } else {
                known++;
            }
        }
        Due.due("how many opcodes are known", known, 11);
    }

    /** Stands before WAIT at 0x40 or another word there; TIME is not yet at LIMIT. */
    private static RvCore timed(int mtvec, int mie, int mstatus, int limit, int word) {
        Program program = new Program().control(Asm.MTVEC, mtvec).control(Asm.MIE, mie).store(Asm.LIMIT, limit)
                .store(Asm.LIMIT + 4, 0).control(Asm.MSTATUS, mstatus).add(word);
        return program.readyOn(1024, 1);
    }

    private static final int TIMED = 19;

    private static void interrupts() {
        for (int low = 0; low < 4; low++) {
            RvCore core = timed(0x200 + low, 0x80, 8, TIMED + 1, Asm.FENCE);
            Due.due("step() one before LIMIT", core.step(), RvCore.RETIRED);
            core.tick();
            long before = core.told(2);
            Due.due("step() at LIMIT", core.step(), RvCore.INTERRUPTED);
            entered(core, "the interrupt", 4 * TIMED + 4, 0x80000007, 0, low % 2 == 1 ? 0x21C : 0x200);
            Due.due("mstatus", core.csr(Asm.MSTATUS), 0x1880);
            Due.due("told(2)", core.told(2), before);
            Due.due("told(4)", core.told(4), RvCore.INTERRUPTED);
            Due.due("told(0)", core.told(0), TIMED + 1);
            Due.due("mip", core.csr(Asm.MIP), 0x80);
            Due.due("step() behind it", core.step(), RvCore.TRAPPED);
        }
    }

    private static void interruptsNotWithoutEach() {
        Due.due("step() with all", timed(0x200, 0x80, 8, TIMED, Asm.FENCE).step(), RvCore.INTERRUPTED);
        Due.due("step() without mie", timed(0x200, 0x808, 8, TIMED, Asm.FENCE).step(), RvCore.RETIRED);
        Due.due("step() without MIE", timed(0x200, 0x80, 0x80, TIMED, Asm.FENCE).step(), RvCore.RETIRED);
        Due.due("step() without TIME", timed(0x200, 0x80, 8, TIMED + 1, Asm.FENCE).step(), RvCore.RETIRED);
    }

    private static void interruptsBeforeTheInstruction() {
        RvCore core = timed(0x200, 0x80, 8, TIMED, Asm.addi(5, 0, 1));
        Due.due("step()", core.step(), RvCore.INTERRUPTED);
        Due.due("reg(5)", core.reg(5), 0);
        Due.due("mepc", core.csr(Asm.MEPC), 4 * TIMED);
        // Where no instruction is, the interrupt still comes first.
        core = timed(0x200, 0x80, 8, TIMED + 1, Asm.jalr(0, 0, -4));
        Due.due("step() away", core.step(), RvCore.RETIRED);
        core.tick();
        Due.due("step() outside", core.step(), RvCore.INTERRUPTED);
        Due.due("mepc outside", core.csr(Asm.MEPC), -4);
    }

    private static void interruptsEndWaiting() {
        RvCore core = timed(0x200, 0x80, 8, TIMED + 2, Asm.WAIT);
        Due.due("step() of WAIT", core.step(), RvCore.RETIRED);
        Due.due("told(3)", core.told(3), 1);
        core.tick();
        Due.due("step() before LIMIT", core.step(), RvCore.WAITS);
        core.tick();
        Due.due("step() at LIMIT", core.step(), RvCore.INTERRUPTED);
        Due.due("told(3) behind it", core.told(3), 0);
        Due.due("mepc", core.csr(Asm.MEPC), 4 * TIMED + 4);
    }

    private static void waits() {
        RvCore core = new Program().add(Asm.WAIT, Asm.addi(5, 0, 1)).on(64, 0);
        Due.due("step() of WAIT", core.step(), RvCore.RETIRED);
        Due.due("told(2)", core.told(2), 1);
        Due.due("pc()", core.pc(), 4);
        for (int i = 0; i < 5; i++) {
            Due.due("step()", core.step(), RvCore.WAITS);
            Due.due("told(4)", core.told(4), RvCore.WAITS);
            Due.due("told(3)", core.told(3), 1);
            core.tick();
        }
        Due.due("pc()", core.pc(), 4);
        Due.due("told(2)", core.told(2), 1);
        Due.due("reg(5)", core.reg(5), 0);
        // mie's other bits have none in common with mip.
        core = timed(0, 0x808, 8, TIMED, Asm.WAIT);
        Due.due("step() of WAIT", core.step(), RvCore.RETIRED);
        Due.due("step() with mip alone", core.step(), RvCore.WAITS);
    }

    private static void wakesWithoutInterrupt() {
        RvCore core = timed(0x200, 0x80, 0, TIMED + 1, Asm.WAIT);
        core.load(4 * TIMED + 4, Asm.addi(5, 0, 1));
        core.load(4 * TIMED + 8, Asm.WAIT);
        Due.due("step() of WAIT", core.step(), RvCore.RETIRED);
        Due.due("step() before LIMIT", core.step(), RvCore.WAITS);
        core.tick();
        Due.due("step() at LIMIT", core.step(), RvCore.RETIRED);
        Due.due("reg(5)", core.reg(5), 1);
        Due.due("told(3)", core.told(3), 0);
        // WAIT waits even if it will wake at once.
        Due.due("step() of WAIT at LIMIT", core.step(), RvCore.RETIRED);
        Due.due("told(3)", core.told(3), 1);
        Due.due("step() behind it", core.step(), RvCore.TRAPPED);
        Due.due("told(3)", core.told(3), 0);
    }

    private static void wakesToATrap() {
        RvCore core = timed(0x200, 0x80, 0, TIMED, Asm.WAIT);
        core.load(4 * TIMED + 4, Asm.CALL);
        core.step();
        Due.due("step() of CALL", core.step(), RvCore.TRAPPED);
        Due.due("told(3)", core.told(3), 0);
        Due.due("mcause", core.csr(Asm.MCAUSE), 11);
    }

    private static void refuses() {
        for (int f = 0; f < 3; f++) {
            RvCore core = new Program().set(1, Asm.PORT).set(2, 65).add(Asm.s(f, 1, 2, 0), Asm.s(f, 1, 2, 0))
                    .readyOn(64, 1);
            for (int i = 0; i < 3; i++) {
                Due.due("step() to the full PORT", core.step(), RvCore.REFUSED);
                Due.due("told(4)", core.told(4), RvCore.REFUSED);
                Due.due("pc()", core.pc(), 20);
                Due.due("told(2)", core.told(2), 5);
                Due.due("outSize()", core.outSize(), 1);
                Due.due("mcause", core.csr(Asm.MCAUSE), 0);
                Due.due("mepc", core.csr(Asm.MEPC), 0);
            }
        }
        RvCore core = new Program().set(1, Asm.PORT).add(Asm.s(0, 1, 2, 0)).readyOn(64, 0);
        Due.due("step() to a PORT of 0", core.step(), RvCore.REFUSED);
        core = new Program().set(1, Asm.PORT).add(Asm.s(1, 1, 2, 1)).readyOn(64, 0);
        Due.due("step() to no multiple at a PORT of 0", core.step(), RvCore.TRAPPED);
        // An interrupt comes before the instruction that would be refused.
        core = timed(0x200, 0x80, 8, TIMED, Asm.s(0, 30, 0, 0));
        Due.due("step() with an interrupt", core.step(), RvCore.INTERRUPTED);
    }

    private static void refusalLeavesTheWaiting() {
        RvCore core = new Program().control(Asm.MIE, 0x80).store(Asm.LIMIT + 4, 0).store(Asm.LIMIT, 0).set(1, Asm.PORT)
                .add(Asm.WAIT, Asm.s(0, 1, 0, 0)).readyOn(128, 0);
        Due.due("told(3) before", core.told(3), 1);
        Due.due("step()", core.step(), RvCore.REFUSED);
        Due.due("told(3): nothing is done", core.told(3), 1);
    }
}
