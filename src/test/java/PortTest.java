/** Promises 13, 14, and the PORT. */
public final class PortTest {
    public static void main(String[] args) {
        sendsTheLowestByte();
        keepsTheOrder();
        tellsItsRoom();
        takesAsManyAsItShall();
        Due.end();
    }

    private static void sendsTheLowestByte() {
        int[] numbers = {0, 65, 255, 256, -1, 0x12345680, 0x7FFFFFFF};
        for (int number : numbers) {
            for (int f = 0; f < 3; f++) {
                RvCore core = new Program().set(1, Asm.PORT + 8).set(2, number).add(Asm.s(f, 1, 2, -8)).readyOn(64, 2);
                Due.due("outSize() before", core.outSize(), 0);
                Due.due("out(0) before", core.out(0), -1);
                Due.due("step() of sending " + number, core.step(), RvCore.RETIRED);
                Due.due("outSize()", core.outSize(), 1);
                Due.due("out(0)", core.out(0), number & 255);
                int[] others = {1, -1, 2, 3, 4096, Integer.MAX_VALUE, Integer.MIN_VALUE};
                for (int i : others) {
                    Due.due("out(" + i + ")", core.out(i), -1);
                }
            }
        }
    }

    /** Sends 1, 2, 3 .. on and on. */
    private static Program sender() {
        return new Program().set(1, Asm.PORT).add(Asm.addi(2, 2, 1), Asm.s(0, 1, 2, 0), Asm.j(0, -8));
    }

    private static void keepsTheOrder() {
        RvCore core = sender().on(64, 300);
        core.run(10000);
        Due.due("told(4)", core.told(4), RvCore.REFUSED);
        Due.due("outSize()", core.outSize(), 300);
        for (int i = 0; i < 300; i++) {
            Due.due("out(" + i + ")", core.out(i), (i + 1) & 255);
        }
        Due.due("out(300)", core.out(300), -1);
        core.reset();
        Due.due("outSize() behind reset()", core.outSize(), 0);
        Due.due("out(0) behind reset()", core.out(0), -1);
        core.run(5);
        Due.due("outSize() again", core.outSize(), 1);
        Due.due("out(0) again", core.out(0), 1);
        Due.due("out(1) again", core.out(1), -1);
    }

    private static void tellsItsRoom() {
        Program program = new Program().set(1, Asm.PORT);
        for (int i = 0; i < 4; i++) {
            program.add(Asm.read(2, 3 + i, 1, 0), Asm.s(0, 1, 0, 0));
        }
        RvCore core = program.on(64, 3);
        Due.due("run(20)", core.run(20), 10);
        for (int i = 0; i < 4; i++) {
            Due.due("room behind " + i + " bytes", core.reg(3 + i), 3 - i);
        }
        Due.due("told(4)", core.told(4), RvCore.REFUSED);
    }

    private static void takesAsManyAsItShall() {
        int[] ports = {0, 1, 2, 4095, 4096};
        for (int port : ports) {
            RvCore core = sender().on(64, port);
            core.run(100000);
            Due.due("told(4) of " + port, core.told(4), RvCore.REFUSED);
            Due.due("outSize() of " + port, core.outSize(), port);
            Due.due("the last byte of " + port, core.out(port - 1), port == 0 ? -1 : port & 255);
            Due.due("behind the last byte of " + port, core.out(port), -1);
        }
    }
}
