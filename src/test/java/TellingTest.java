/** Promises 8, 9, 10, 12: tick, reg, pc, told. */
public final class TellingTest {
    public static void main(String[] args) {
        ticks();
        tickRunsOver();
        registers();
        places();
        tells();
        tellsNothingElse();
        Due.end();
    }

    private static void ticks() {
        RvCore core = new Program().add(Asm.FENCE).on(64, 0);
        for (int i = 1; i <= 10; i++) {
            core.tick();
            Due.due("told(0)", core.told(0), i);
        }
        Due.due("step()", core.step(), RvCore.RETIRED);
        Due.due("told(0) behind step()", core.told(0), 10);
        Due.due("pc()", core.pc(), 4);
        core.tick();
        Due.due("pc() behind tick()", core.pc(), 4);
        Due.due("told(1) behind tick()", core.told(1), -1);
        Due.due("told(2) behind tick()", core.told(2), 1);
    }

    private static void tickRunsOver() {
        RvCore core = new Program().store(Asm.TIME, -2).doneOn(64, 0);
        Due.due("told(0)", core.told(0), 0xFFFFFFFFL);
        core.tick();
        Due.due("told(0) over the lower half", core.told(0), 0x100000000L);
        core = new Program().store(Asm.TIME + 4, 0x7FFFFFFF).store(Asm.TIME, -2).doneOn(64, 0);
        Due.due("told(0)", core.told(0), Long.MAX_VALUE);
        core.tick();
        Due.due("told(0) over the sign", core.told(0), Long.MIN_VALUE);
        core = new Program().store(Asm.TIME + 4, -1).store(Asm.TIME, -2).doneOn(64, 0);
        Due.due("told(0)", core.told(0), -1);
        core.tick();
        Due.due("told(0) over all", core.told(0), 0);
    }

    private static void registers() {
        Program program = new Program();
        for (int d = 1; d < 32; d++) {
            program.set(d, 0x80000000 + 3 * d);
        }
        RvCore core = program.doneOn(256, 0);
        for (int i = 0; i < 32; i++) {
            int due = i == 0 ? 0 : 0x80000000 + 3 * i;
            int[] numbers = {i, i + 32, i - 32, i - 64, i + 3200, Integer.MIN_VALUE + i, Integer.MAX_VALUE - 31 + i};
            for (int number : numbers) {
                Due.due("reg(" + number + ")", core.reg(number), due);
            }
        }
        Due.due("reg(-1)", core.reg(-1), 0x80000000 + 93);
    }

    private static void places() {
        RvCore core = new Program().add(Asm.FENCE, Asm.FENCE, Asm.j(0, 0x400), Asm.FENCE).on(64, 0);
        int[] due = {4, 8, 0x408, 0};
        for (int place : due) {
            core.step();
            Due.due("pc()", core.pc(), place);
        }
        core = new Program().set(1, 0x80000000).add(Asm.jalr(0, 1, 0)).doneOn(64, 0);
        Due.due("pc() in the upper half", core.pc(), 0x80000000);
    }

    private static void tells() {
        RvCore core = new Program().store(Asm.LIMIT + 4, 0x89ABCDEF).store(Asm.LIMIT, 0x01234567).add(Asm.WAIT, Asm.CALL)
                .on(64, 0);
        Due.due("told(4) before any step", core.told(4), 0);
        Due.due("run(10)", core.run(10), 10);
        Due.due("told(0)", core.told(0), 10);
        Due.due("told(1)", core.told(1), 0x89ABCDEF01234567L);
        Due.due("told(2)", core.told(2), 10);
        Due.due("told(3)", core.told(3), 0);
        Due.due("run(5)", core.run(5), 2);
        Due.due("told(2)", core.told(2), 11);
        Due.due("told(3)", core.told(3), 1);
        Due.due("told(4)", core.told(4), RvCore.WAITS);
        core.reset();
        Due.due("told(2) behind reset()", core.told(2), 0);
        Due.due("told(4) behind reset()", core.told(4), 0);
        Due.due("step()", core.step(), RvCore.RETIRED);
        Due.due("told(2)", core.told(2), 1);
    }

    private static void tellsNothingElse() {
        RvCore core = new Program().add(Asm.FENCE, Asm.WAIT).doneOn(64, 0);
        core.step();
        int[] others = {-1, 5, 6, 32, 256, -5, Integer.MIN_VALUE, Integer.MIN_VALUE + 1, Integer.MAX_VALUE};
        for (int which : others) {
            Due.due("told(" + which + ")", core.told(which), 0);
        }
    }
}
