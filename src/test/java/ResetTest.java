/** Promise 2. */
public final class ResetTest {
    public static void main(String[] args) {
        allIsAsNew();
        endsWaiting();
        freesThePort();
        Due.end();
    }

    private static RvCore used() {
        Program program = new Program();
        for (int d = 1; d < 30; d++) {
            program.set(d, 1000 + d);
        }
        program.control(Asm.MSTATUS, -1).control(Asm.MIE, 8).control(Asm.MTVEC, 0x104).control(Asm.MSCRATCH, 5)
                .control(Asm.MEPC, 0x1004).control(Asm.MCAUSE, 7).control(Asm.MTVAL, 9)
                .store(Asm.LIMIT, 100).store(Asm.LIMIT + 4, 0).store(Asm.TIME + 4, 3).store(Asm.PORT, 65).add(Asm.WAIT);
        return program.doneOn(1024, 1);
    }

    private static void allIsAsNew() {
        RvCore core = used();
        Due.due("reg(29) before", core.reg(29), 1029);
        Due.due("told(3) before", core.told(3), 1);
        Due.due("outSize() before", core.outSize(), 1);
        Due.due("step() before", core.step(), RvCore.WAITS);
        core.reset();
        Fresh.look(core);
        int first = Asm.lui(1, 1001 + 0x800);
        for (int i = 0; i < 4; i++) {
            Due.due("peek(" + i + "): MEMORY stays", core.peek(i), (first >>> (8 * i)) & 255);
        }
    }

    private static void endsWaiting() {
        RvCore core = new Program().add(Asm.WAIT).doneOn(64, 0);
        Due.due("step()", core.step(), RvCore.WAITS);
        core.reset();
        Due.due("step() behind reset()", core.step(), RvCore.RETIRED);
    }

    private static void freesThePort() {
        RvCore core = new Program().store(Asm.PORT, 0x41).doneOn(64, 1);
        core.reset();
        Due.due("run(5) behind reset()", core.run(5), 5);
        Due.due("outSize()", core.outSize(), 1);
        Due.due("told(4)", core.told(4), RvCore.RETIRED);
    }
}
