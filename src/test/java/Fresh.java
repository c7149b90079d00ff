/** What all but MEMORY is like in a new object and behind reset(). */
final class Fresh {
    private Fresh() {
    }

    static void look(RvCore core) {
        for (int i = 0; i < 32; i++) {
            Due.due("reg(" + i + ")", core.reg(i), 0);
        }
        for (int number : Asm.LISTED) {
            int due = number == Asm.MSTATUS ? 0x1800 : number == Asm.MISA ? 0x40001100 : 0;
            Due.due("csr(" + number + ")", core.csr(number), due);
        }
        Due.due("pc()", core.pc(), 0);
        for (int which = 0; which <= 4; which++) {
            Due.due("told(" + which + ")", core.told(which), which == 1 ? -1 : 0);
        }
        Due.due("outSize()", core.outSize(), 0);
        Due.due("out(0)", core.out(0), -1);
    }
}
