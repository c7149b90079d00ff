/** One word, done by step() on a machine whose x1, x2, x3 hold numbers. */
final class One {
    /** Where the word is, where a trap leads, what x3 holds before. */
    static final int PLACE = 36, ENTRY = 0x200, KEPT = 0x77;
    static final int BYTES = 4096, PORT = 4;
    private static final int BEFORE = 9;

    private One() {
    }

    static RvCore ready(int word, int a, int b) {
        return new Program().control(Asm.MTVEC, ENTRY).set(1, a).set(2, b).set(3, KEPT).add(word).readyOn(BYTES, PORT);
    }

    static void retires(RvCore core, String text) {
        Due.due("step() of " + text, core.step(), RvCore.RETIRED);
        Due.due("told(2) behind " + text, core.told(2), BEFORE + 1);
        Due.due("mcause behind " + text, core.csr(Asm.MCAUSE), 0);
    }

    /** x3 becomes what is due, and PC goes on. */
    static void gives(String text, int word, int a, int b, int due) {
        RvCore core = ready(word, a, b);
        retires(core, text);
        Due.due("x3 behind " + text, core.reg(3), due);
        Due.due("pc() behind " + text, core.pc(), PLACE + 4);
        Due.due("x1 behind " + text, core.reg(1), a);
        Due.due("x2 behind " + text, core.reg(2), b);
    }

    /** PC becomes what is due. */
    static RvCore goes(String text, int word, int a, int b, int due) {
        RvCore core = ready(word, a, b);
        retires(core, text);
        Due.due("pc() behind " + text, core.pc(), due);
        return core;
    }

    static void traps(RvCore core, String text, int cause, int value) {
        int a = core.reg(1);
        int b = core.reg(2);
        Due.due("step() of " + text, core.step(), RvCore.TRAPPED);
        Due.due("mepc of " + text, core.csr(Asm.MEPC), PLACE);
        Due.due("mcause of " + text, core.csr(Asm.MCAUSE), cause);
        Due.due("mtval of " + text, core.csr(Asm.MTVAL), value);
        Due.due("mstatus of " + text, core.csr(Asm.MSTATUS), 0x1800);
        Due.due("pc() of " + text, core.pc(), ENTRY);
        Due.due("told(2) of " + text, core.told(2), BEFORE);
        Due.due("outSize() of " + text, core.outSize(), 0);
        Due.due("x1 stays, " + text, core.reg(1), a);
        Due.due("x2 stays, " + text, core.reg(2), b);
        Due.due("x3 stays, " + text, core.reg(3), KEPT);
    }

    static RvCore trapped(String text, int word, int a, int b, int cause, int value) {
        RvCore core = ready(word, a, b);
        traps(core, text, cause, value);
        return core;
    }

    static void illegal(int word) {
        trapped("0x" + Integer.toHexString(word), word, 5, 7, 2, word);
    }
}
