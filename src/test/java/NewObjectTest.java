/** Promise 1. */
public final class NewObjectTest {
    public static void main(String[] args) {
        size(Integer.MIN_VALUE, 64);
        size(-1, 64);
        size(0, 64);
        size(63, 64);
        size(64, 64);
        size(65, 64);
        size(67, 64);
        size(68, 68);
        size(1000, 1000);
        size(1003, 1000);
        size(65535, 65532);
        size(65536, 65536);
        size(65537, 65536);
        size(Integer.MAX_VALUE, 65536);
        room(Integer.MIN_VALUE, 0);
        room(-1, 0);
        room(0, 0);
        room(1, 1);
        room(4095, 4095);
        room(4096, 4096);
        room(4097, 4096);
        room(Integer.MAX_VALUE, 4096);
        memoryIsZero();
        isAsBehindReset();
        Due.end();
    }

    private static void size(int bytes, int due) {
        RvCore core = new RvCore(bytes, 0);
        Due.due("peek of the last byte of " + bytes, core.peek(due - 1), 0);
        Due.due("peek behind the last byte of " + bytes, core.peek(due), -1);
    }

    private static void room(int port, int due) {
        RvCore core = new Program().set(1, Asm.PORT).add(Asm.read(2, 2, 1, 0)).doneOn(64, port);
        Due.due("room of a port of " + port, core.reg(2), due);
    }

    private static void memoryIsZero() {
        RvCore core = new RvCore(400, 0);
        for (int i = 0; i < 400; i++) {
            Due.due("peek(" + i + ")", core.peek(i), 0);
        }
    }

    private static void isAsBehindReset() {
        RvCore core = new RvCore(64, 8);
        Fresh.look(core);
    }
}
