/** Promise 7. */
public final class RunTest {
    public static void main(String[] args) {
        bad();
        none();
        countsSteps();
        endsWithATrap();
        endsWithAnInterrupt();
        endsWaiting();
        endsRefused();
        interruptsAtItsTime();
        Due.end();
    }

    private static final int HERE = Asm.j(0, 0);

    private static void bad() {
        RvCore core = new Program().add(HERE).on(64, 0);
        Due.due("step()", core.step(), RvCore.RETIRED);
        int[] numbers = {-1, -100, 100001, 200000, Integer.MAX_VALUE, Integer.MIN_VALUE};
        for (int n : numbers) {
            Due.due("run(" + n + ")", core.run(n), RvCore.BAD);
            Due.due("told(0)", core.told(0), 0);
            Due.due("told(2)", core.told(2), 1);
            Due.due("told(4)", core.told(4), RvCore.RETIRED);
        }
    }

    private static void none() {
        RvCore core = new RvCore(64, 0);
        Due.due("step()", core.step(), RvCore.TRAPPED);
        Due.due("run(0)", core.run(0), 0);
        Due.due("told(0)", core.told(0), 0);
        Due.due("told(4)", core.told(4), RvCore.TRAPPED);
    }

    private static void countsSteps() {
        RvCore core = new Program().add(Asm.addi(1, 1, 1), Asm.j(0, -4)).on(64, 0);
        Due.due("run(1)", core.run(1), 1);
        Due.due("told(0)", core.told(0), 1);
        Due.due("run(99999)", core.run(99999), 99999);
        Due.due("reg(1)", core.reg(1), 50000);
        Due.due("run(100000)", core.run(100000), 100000);
        Due.due("told(0)", core.told(0), 200000);
        Due.due("told(2)", core.told(2), 200000);
        Due.due("told(4)", core.told(4), RvCore.RETIRED);
        Due.due("reg(1)", core.reg(1), 100000);
    }

    private static void ended(RvCore core, int n, int done, int answer, int time, int retired) {
        Due.due("run(" + n + ")", core.run(n), done);
        Due.due("told(4)", core.told(4), answer);
        Due.due("told(0)", core.told(0), time);
        Due.due("told(2)", core.told(2), retired);
    }

    private static void endsWithATrap() {
        RvCore core = new Program().add(Asm.FENCE, Asm.FENCE, Asm.CALL).on(64, 0);
        ended(core, 10, 3, RvCore.TRAPPED, 3, 2);
        ended(core, 3, 3, RvCore.TRAPPED, 6, 4);
        ended(core, 2, 2, RvCore.RETIRED, 8, 6);
        ended(core, 1, 1, RvCore.TRAPPED, 9, 6);
    }

    private static void endsWithAnInterrupt() {
        Program program = new Program().store(Asm.LIMIT + 4, 0).store(Asm.LIMIT, 20).control(Asm.MIE, -1)
                .control(Asm.MTVEC, 4 * 18 - 28 + 1).control(Asm.MSTATUS, 8).add(HERE);
        RvCore core = program.on(128, 0);
        ended(core, 1000, 21, RvCore.INTERRUPTED, 21, 20);
        Due.due("pc()", core.pc(), 72);
        Due.due("mepc", core.csr(Asm.MEPC), 76);
    }

    private static void interruptsAtItsTime() {
        // TIME is one more behind each step, so the step that begins with TIME at LIMIT is the interrupt.
        for (int limit = 17; limit < 25; limit++) {
            RvCore core = new Program().store(Asm.LIMIT + 4, 0).store(Asm.LIMIT, limit).control(Asm.MIE, -1)
                    .control(Asm.MSTATUS, 8).add(HERE).on(128, 0);
            ended(core, 1000, limit + 1, RvCore.INTERRUPTED, limit + 1, limit);
        }
    }

    private static void endsWaiting() {
        RvCore core = new Program().add(Asm.FENCE, Asm.WAIT, HERE).on(64, 0);
        ended(core, 10, 3, RvCore.WAITS, 3, 2);
        ended(core, 10, 1, RvCore.WAITS, 4, 2);
        ended(core, 1, 1, RvCore.WAITS, 5, 2);
    }

    private static void endsRefused() {
        RvCore core = new Program().set(1, Asm.PORT).add(Asm.s(0, 1, 1, 0), Asm.j(0, -4)).on(64, 2);
        ended(core, 100, 7, RvCore.REFUSED, 7, 6);
        ended(core, 100, 1, RvCore.REFUSED, 8, 6);
        Due.due("outSize()", core.outSize(), 2);
    }
}
