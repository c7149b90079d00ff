/** The edges of promises 6 and 7, step and run, sentence by sentence. */
public final class StepEdgeTest {
    private static final int HERE = Asm.j(0, 0);

    public static void main(String[] args) {
        interruptsWithAllThree();
        interruptsAtTheLimit();
        interruptEndsWaiting();
        waitsWithoutACommonBit();
        waitingChangesNothing();
        instructionEndsWaiting();
        trapEndsWaiting();
        retiresOrTraps();
        refuses();
        refusesToAnyStore();
        refusesNotElsewhere();
        refusesNothingBehindReset();
        refusalLeavesTheWaiting();
        interruptComesBeforeRefusal();
        runsSoMany();
        timeGoesOn();
        timeRunsOverInRun();
        runsAsLongAsRetired();
        runsBad();
        Due.end();
    }

    /** PC is 76 and TIME 0; mip's bit, mie and mstatus are as told. */
    private static Program timed(long limit, int mie, int mstatus) {
        return new Program().timer(Asm.LIMIT, limit).control(Asm.MTVEC, 0x100).control(Asm.MIE, mie)
                .control(Asm.MSTATUS, mstatus);
    }

    private static void interruptsWithAllThree() {
        Due.sentence("If bit 7 of mip and of mie are 1, and MIE: INTERRUPT");
        // LIMIT, mie, mstatus: of each the one that interrupts, and one that does not.
        long[] limits = {0, 1};
        int[] enabled = {0x80, 0x808};
        int[] status = {0x08, 0x80};
        for (int i = 0; i < 8; i++) {
            Program program = timed(limits[i & 1], enabled[i >> 1 & 1], status[i >> 2]).add(Asm.addi(3, 0, 1));
            RvCore core = program.on(256, 0);
            for (int done = 0; done < 19; done++) {
                Due.due("step() before", core.step(), RvCore.RETIRED);
            }
            String text = "LIMIT " + limits[i & 1] + ", mie " + enabled[i >> 1 & 1] + ", mstatus " + status[i >> 2];
            Due.due("step() with " + text, core.step(), i == 0 ? RvCore.INTERRUPTED : RvCore.RETIRED);
            Due.due("told(4) with " + text, core.told(4), i == 0 ? RvCore.INTERRUPTED : RvCore.RETIRED);
            Due.due("x3 with " + text, core.reg(3), i == 0 ? 0 : 1);
            Due.due("pc() with " + text, core.pc(), i == 0 ? 0x100 : 80);
            Due.due("told(2) with " + text, core.told(2), i == 0 ? 19 : 20);
        }
    }

    private static void interruptsAtTheLimit() {
        Due.sentence("INTERRUPT (nothing WAITS then): INTERRUPTED.");
        RvCore core = timed(2, 0x80, 8).add(HERE).steppedOn(256, 0);
        core.tick();
        Due.due("step() one before LIMIT", core.step(), RvCore.RETIRED);
        core.tick();
        Due.due("step() at LIMIT", core.step(), RvCore.INTERRUPTED);
        // Without sign: a TIME that runs over is below LIMIT again.
        core = timed(-1, 0x80, 8).timer(Asm.TIME, -2).add(HERE).steppedOn(256, 0);
        Due.due("step() one before the most", core.step(), RvCore.RETIRED);
        core.tick();
        core.tick();
        Due.due("step() behind the most", core.step(), RvCore.RETIRED);
        core = timed(-1, 0x80, 8).timer(Asm.TIME, -2).add(HERE).steppedOn(256, 0);
        core.tick();
        Due.due("step() at the most", core.step(), RvCore.INTERRUPTED);
    }

    private static void interruptEndsWaiting() {
        Due.sentence("(nothing WAITS then): INTERRUPTED.");
        RvCore core = timed(1, 0x80, 8).add(Asm.WAIT).steppedOn(512, 0);
        core.load(0x100, Asm.addi(3, 0, 1));
        Due.due("step() before LIMIT", core.step(), RvCore.WAITS);
        core.tick();
        Due.due("step() at LIMIT", core.step(), RvCore.INTERRUPTED);
        Due.due("told(3)", core.told(3), 0);
        Due.due("mepc", core.csr(Asm.MEPC), 80);
        Due.due("step() behind it", core.step(), RvCore.RETIRED);
        Due.due("x3", core.reg(3), 1);
    }

    private static void waitsWithoutACommonBit() {
        Due.sentence("Else if it WAITS, and mip and mie have no bit in common: WAITS.");
        // Of each row: LIMIT, mie, whether it goes on. MIE is 0.
        int[][] rows = {{1, 0, 0}, {1, 0x80, 0}, {1, 0x888, 0}, {0, 0, 0}, {0, 8, 0}, {0, 0x800, 0}, {0, 0x808, 0},
                {0, 0x80, 1}, {0, 0x888, 1}};
        for (int[] row : rows) {
            RvCore core = timed(row[0], row[1], 0).add(Asm.WAIT).steppedOn(256, 0);
            core.load(80, Asm.addi(3, 0, 1));
            String text = "LIMIT " + row[0] + ", mie " + row[1];
            Due.due("step() with " + text, core.step(), row[2] == 1 ? RvCore.RETIRED : RvCore.WAITS);
            Due.due("told(3) with " + text, core.told(3), 1 - row[2]);
            Due.due("x3 with " + text, core.reg(3), row[2]);
        }
        // MIE alone wakes nothing.
        RvCore core = timed(0, 0x808, 8).add(Asm.WAIT).steppedOn(256, 0);
        Due.due("step() with MIE", core.step(), RvCore.WAITS);
    }

    private static void waitingChangesNothing() {
        Due.sentence("and mip and mie have no bit in common: WAITS.");
        RvCore core = timed(5, 0x80, 8).add(Asm.WAIT).steppedOn(256, 0);
        State before = new State(core);
        for (int i = 0; i < 3; i++) {
            Due.due("step()", core.step(), RvCore.WAITS);
            Due.due("told(4)", core.told(4), RvCore.WAITS);
        }
        before.stays(core, "behind WAITS");
    }

    private static void instructionEndsWaiting() {
        Due.sentence("Else one INSTRUCTION (nothing WAITS before it): RETIRED, or TRAPPED.");
        RvCore core = timed(1, 0x80, 0).add(Asm.WAIT).steppedOn(256, 0);
        core.load(80, Asm.FENCE);
        core.load(84, Asm.WAIT);
        core.load(88, Asm.control(1, 0, 0, Asm.MIE));
        core.load(92, Asm.addi(3, 0, 1));
        core.tick();
        Due.due("step() of what follows", core.step(), RvCore.RETIRED);
        Due.due("told(3)", core.told(3), 0);
        // It WAITS behind a WAIT, even if the next step goes on at once.
        Due.due("step() of WAIT", core.step(), RvCore.RETIRED);
        Due.due("told(3) behind WAIT", core.told(3), 1);
        Due.due("step() behind WAIT", core.step(), RvCore.RETIRED);
        Due.due("told(3)", core.told(3), 0);
        // mie has no bit now; but nothing WAITS.
        Due.due("step() without mie", core.step(), RvCore.RETIRED);
        Due.due("x3", core.reg(3), 1);
    }

    private static void trapEndsWaiting() {
        Due.sentence("(nothing WAITS before it): RETIRED, or TRAPPED.");
        int[] words = {Asm.CALL, 0, Asm.j(0, 2), Asm.read(2, 0, 0, 1)};
        for (int word : words) {
            RvCore core = timed(0, 0x80, 0).add(Asm.WAIT).steppedOn(512, 0);
            core.load(80, word);
            core.load(0x100, Asm.control(1, 0, 0, Asm.MIE));
            core.load(0x104, Asm.FENCE);
            Due.due("step() of a trap", core.step(), RvCore.TRAPPED);
            Due.due("told(3)", core.told(3), 0);
            Due.due("pc()", core.pc(), 0x100);
            Due.due("step() behind it", core.step(), RvCore.RETIRED);
            Due.due("step() without mie", core.step(), RvCore.RETIRED);
        }
    }

    private static void retiresOrTraps() {
        Due.sentence("Else one INSTRUCTION");
        RvCore core = new Program().add(Asm.FENCE, Asm.FENCE, Asm.CALL).on(64, 0);
        int[] answers = {RvCore.RETIRED, RvCore.RETIRED, RvCore.TRAPPED};
        int[] places = {4, 8, 0};
        for (int i = 0; i < 3; i++) {
            Due.due("step()", core.step(), answers[i]);
            Due.due("told(4)", core.told(4), answers[i]);
            Due.due("pc()", core.pc(), places[i]);
            Due.due("told(0): step() leaves TIME", core.told(0), 0);
        }
        Due.due("told(2)", core.told(2), 2);
    }

    private static void refuses() {
        Due.sentence("REFUSED: it would send a byte, and the PORT takes none: nothing is done.");
        for (int port = -1; port < 3; port++) {
            int takes = port < 0 ? 0 : port;
            Program program = new Program().set(1, Asm.PORT).set(2, 65).control(Asm.MTVEC, 32);
            for (int i = 0; i <= takes; i++) {
                program.add(Asm.s(0, 1, 2, 0));
            }
            RvCore core = program.readyOn(64, port);
            State before = new State(core);
            for (int i = 0; i < 3; i++) {
                Due.due("step() to a PORT of " + port, core.step(), RvCore.REFUSED);
                Due.due("told(4)", core.told(4), RvCore.REFUSED);
            }
            before.stays(core, "behind REFUSED by a PORT of " + port);
            for (int i = 0; i < 4; i++) {
                Due.due("peek(" + i + ") stays", core.peek(i), (program.word(0) >>> 8 * i) & 255);
            }
        }
        // The largest PORT takes 4096, and refuses one more.
        RvCore core = new Program().set(1, Asm.PORT).add(Asm.s(0, 1, 2, 0), Asm.j(0, -4)).on(64, 4096);
        Due.due("run(100000)", core.run(100000), 2 + 2 * 4096 + 1);
        Due.due("told(4)", core.told(4), RvCore.REFUSED);
        Due.due("outSize()", core.outSize(), 4096);
    }

    private static void refusesToAnyStore() {
        Due.sentence("it would send a byte, and the PORT takes none: nothing is done.");
        for (int f = 0; f < 3; f++) {
            RvCore core = new Program().set(1, Asm.PORT).add(Asm.s(f, 1, 1, 0), Asm.s(f, 1, 1, 0)).readyOn(64, 1);
            Due.due("step(), f " + f, core.step(), RvCore.REFUSED);
            Due.due("outSize(), f " + f, core.outSize(), 1);
            Due.due("pc(), f " + f, core.pc(), 12);
            Due.due("told(2), f " + f, core.told(2), 3);
        }
    }

    private static void refusesNotElsewhere() {
        Due.sentence("it would send a byte, and the PORT takes none");
        // What sends no byte is not refused by a PORT that takes none.
        int[] words = {Asm.read(2, 3, 1, 0), Asm.s(2, 0, 2, 60), Asm.FENCE};
        for (int word : words) {
            Due.due("step()", new Program().set(1, Asm.PORT).add(word).readyOn(64, 0).step(), RvCore.RETIRED);
        }
        int[] trapping = {Asm.s(0, 1, 2, 1), Asm.s(1, 1, 2, 1), Asm.s(1, 1, 2, 2), Asm.s(2, 1, 2, 1), Asm.s(2, 1, 2, 4),
                Asm.s(3, 1, 2, 0), Asm.read(0, 3, 1, 0)};
        int[] causes = {7, 6, 7, 6, 7, 2, 5};
        for (int i = 0; i < trapping.length; i++) {
            RvCore core = new Program().set(1, Asm.PORT).add(trapping[i]).readyOn(64, 0);
            Due.due("step()", core.step(), RvCore.TRAPPED);
            Due.due("mcause", core.csr(Asm.MCAUSE), causes[i]);
        }
    }

    private static void refusesNothingBehindReset() {
        Due.sentence("the PORT has sent nothing");
        RvCore core = new Program().set(1, Asm.PORT).add(Asm.s(0, 1, 1, 0), Asm.s(0, 1, 1, 0)).on(64, 1);
        Due.due("run(9)", core.run(9), 4);
        Due.due("told(4)", core.told(4), RvCore.REFUSED);
        core.reset();
        Due.due("run(9) behind reset()", core.run(9), 4);
        Due.due("outSize() behind reset()", core.outSize(), 1);
    }

    private static void refusalLeavesTheWaiting() {
        Due.sentence("nothing is done.");
        RvCore core = new Program().set(1, Asm.PORT).timer(Asm.LIMIT, 0).control(Asm.MIE, 0x80).add(Asm.WAIT)
                .add(Asm.s(0, 1, 1, 0)).readyOn(128, 0);
        State before = new State(core);
        Due.due("told(3) before", core.told(3), 1);
        Due.due("step()", core.step(), RvCore.REFUSED);
        before.stays(core, "behind REFUSED while it WAITS");
    }

    private static void interruptComesBeforeRefusal() {
        Due.sentence("and MIE: INTERRUPT (nothing WAITS then): INTERRUPTED.");
        RvCore core = new Program().set(1, Asm.PORT).timer(Asm.LIMIT, 0).control(Asm.MIE, 0x80).control(Asm.MSTATUS, 8)
                .add(Asm.s(0, 1, 1, 0)).readyOn(128, 0);
        Due.due("step()", core.step(), RvCore.INTERRUPTED);
        Due.due("told(4)", core.told(4), RvCore.INTERRUPTED);
        Due.due("mepc", core.csr(Asm.MEPC), 72);
    }

    private static void runsSoMany() {
        Due.sentence("STEPS, n (0 .. 100000) at most");
        RvCore core = new Program().add(HERE).on(64, 0);
        State before = new State(core);
        Due.due("run(0)", core.run(0), 0);
        before.stays(core, "behind run(0)");
        Due.due("told(4) behind run(0)", core.told(4), 0);
        int[] numbers = {1, 2, 99999, 100000};
        long all = 0;
        for (int n : numbers) {
            Due.due("run(" + n + ")", core.run(n), n);
            all += n;
            Due.due("told(2) behind run(" + n + ")", core.told(2), all);
        }
        core = new RvCore(64, 0);
        Due.due("step()", core.step(), RvCore.TRAPPED);
        Due.due("run(0) behind a trap", core.run(0), 0);
        Due.due("told(4): run(0) makes no step", core.told(4), RvCore.TRAPPED);
    }

    private static void timeGoesOn() {
        Due.sentence("TIME being one more behind each");
        // TIME is read in the third step, behind two; then in the fourth.
        RvCore core = new Program().set(1, Asm.TIME).add(Asm.read(2, 3, 1, 0), Asm.read(2, 4, 1, 0), HERE).on(64, 0);
        Due.due("run(4)", core.run(4), 4);
        Due.due("x3", core.reg(3), 2);
        Due.due("x4", core.reg(4), 3);
        Due.due("told(0)", core.told(0), 4);
        Due.due("step()", core.step(), RvCore.RETIRED);
        Due.due("told(0) behind step()", core.told(0), 4);
        Due.due("run(1000)", core.run(1000), 1000);
        Due.due("told(0) behind run(1000)", core.told(0), 1004);
        // The interrupt comes in the step that begins with TIME at LIMIT.
        core = timed(30, 0x80, 8).add(HERE).on(256, 0);
        Due.due("run(1000) to LIMIT", core.run(1000), 31);
        Due.due("told(0) behind it", core.told(0), 31);
        Due.due("told(2) behind it", core.told(2), 30);
    }

    private static void timeRunsOverInRun() {
        Due.sentence("TIME being one more behind each, as long as they are RETIRED");
        RvCore core = new Program().timer(Asm.TIME, -1).add(HERE).on(64, 0);
        for (int i = 0; i < 10; i++) {
            Due.due("step()", core.step(), RvCore.RETIRED);
        }
        Due.due("told(0)", core.told(0), -1);
        Due.due("run(1)", core.run(1), 1);
        Due.due("told(0) behind run(1)", core.told(0), 0);
    }

    private static void ends(RvCore core, int done, int answer, int retired) {
        Due.due("run(100)", core.run(100), done);
        Due.due("told(4)", core.told(4), answer);
        Due.due("told(2)", core.told(2), retired);
        Due.due("told(0)", core.told(0), done);
    }

    private static void runsAsLongAsRetired() {
        Due.sentence("as long as they are RETIRED: how many were done (the last one, too).");
        ends(new Program().add(Asm.CALL).on(64, 0), 1, RvCore.TRAPPED, 0);
        ends(new Program().add(Asm.FENCE, Asm.CALL).on(64, 0), 2, RvCore.TRAPPED, 1);
        ends(new Program().add(Asm.WAIT).on(64, 0), 2, RvCore.WAITS, 1);
        ends(new Program().set(1, Asm.PORT).add(Asm.s(0, 1, 1, 0)).on(64, 0), 3, RvCore.REFUSED, 2);
        ends(timed(0, 0x80, 8).on(256, 0), 20, RvCore.INTERRUPTED, 19);
        RvCore core = new Program().add(Asm.WAIT).on(64, 0);
        Due.due("run(1) of WAIT", core.run(1), 1);
        Due.due("told(4) of WAIT", core.told(4), RvCore.RETIRED);
        for (int i = 0; i < 3; i++) {
            Due.due("run(5) while it WAITS", core.run(5), 1);
            Due.due("told(0) while it WAITS", core.told(0), 2 + i);
        }
        // A trap in the last step that is asked for.
        core = new Program().add(Asm.FENCE, Asm.CALL).on(64, 0);
        Due.due("run(2)", core.run(2), 2);
        Due.due("told(4)", core.told(4), RvCore.TRAPPED);
    }

    private static void runsBad() {
        Due.sentence("(the last one, too). BAD.");
        RvCore core = new Program().set(3, 5).add(HERE).doneOn(64, 1);
        State before = new State(core);
        int[] numbers = {-1, -2, 100001, 100002, 1000000, Integer.MAX_VALUE, Integer.MIN_VALUE};
        for (int n : numbers) {
            Due.due("run(" + n + ")", core.run(n), RvCore.BAD);
            Due.due("run(" + n + "), as a number", core.run(n), -2);
        }
        before.stays(core, "behind BAD");
        Due.due("told(4) stays", core.told(4), RvCore.RETIRED);
        core = new RvCore(64, 0);
        core.step();
        Due.due("run(-1) behind a trap", core.run(-1), RvCore.BAD);
        Due.due("told(4): BAD is no step", core.told(4), RvCore.TRAPPED);
    }
}
