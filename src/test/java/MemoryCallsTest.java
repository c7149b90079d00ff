/** Promises 3, 4, 5. */
public final class MemoryCallsTest {
    private static final int[] OUTSIDE = {64, 65, 67, 68, 1000, 65536, -1, -4, -64, Integer.MIN_VALUE,
            Integer.MAX_VALUE, Asm.TIME, Asm.LIMIT, Asm.PORT};

    public static void main(String[] args) {
        pokesEveryByte();
        pokesTheLowestBits();
        pokesNothingOutside();
        loadsAnywhere();
        loadsAllOrNone();
        loadsNothingOutside();
        reachesTheEndOfTheLargest();
        Due.end();
    }

    private static void pokesEveryByte() {
        RvCore core = new RvCore(64, 0);
        for (int i = 0; i < 64; i++) {
            Due.due("poke(" + i + ")", core.poke(i, 200 - i), true);
        }
        for (int i = 0; i < 64; i++) {
            Due.due("peek(" + i + ")", core.peek(i), 200 - i);
        }
    }

    private static void pokesTheLowestBits() {
        RvCore core = new RvCore(64, 0);
        core.load(4, 0x0D0C0B0A);
        int[] numbers = {-1, 256, 0x12345680, Integer.MIN_VALUE, Integer.MAX_VALUE, 255};
        for (int b : numbers) {
            core.poke(6, b);
            Due.due("peek behind poke(6, " + b + ")", core.peek(6), b & 255);
            Due.due("peek(5)", core.peek(5), 0x0B);
            Due.due("peek(7)", core.peek(7), 0x0D);
        }
    }

    private static void pokesNothingOutside() {
        RvCore core = new RvCore(64, 3);
        for (int address : OUTSIDE) {
            Due.due("poke(" + address + ")", core.poke(address, 77), false);
            Due.due("peek(" + address + ")", core.peek(address), -1);
        }
        nothingIsChanged(core);
    }

    private static void nothingIsChanged(RvCore core) {
        for (int i = 0; i < 64; i++) {
            Due.due("peek(" + i + ") behind what is outside", core.peek(i), 0);
        }
        Due.due("told(0)", core.told(0), 0);
        Due.due("told(1)", core.told(1), -1);
        Due.due("outSize()", core.outSize(), 0);
    }

    private static void loadsAnywhere() {
        for (int address = 0; address <= 60; address++) {
            RvCore core = new RvCore(64, 0);
            for (int i = 0; i < 64; i++) {
                core.poke(i, 100 + i);
            }
            Due.due("load(" + address + ")", core.load(address, 0x84A3C2E1), true);
            for (int i = 0; i < 64; i++) {
                int due = i == address ? 0xE1 : i == address + 1 ? 0xC2 : i == address + 2 ? 0xA3
                        : i == address + 3 ? 0x84 : 100 + i;
                Due.due("peek(" + i + ") behind load(" + address + ")", core.peek(i), due);
            }
        }
    }

    private static void loadsAllOrNone() {
        for (int address = 61; address < 64; address++) {
            RvCore core = new RvCore(64, 0);
            Due.due("load(" + address + ")", core.load(address, -1), false);
            nothingIsChanged(core);
        }
    }

    private static void loadsNothingOutside() {
        RvCore core = new RvCore(64, 3);
        for (int address : OUTSIDE) {
            Due.due("load(" + address + ")", core.load(address, -1), false);
        }
        // The last byte of the four would be in MEMORY, were addresses to run over.
        for (int address = -3; address < 0; address++) {
            Due.due("load(" + address + ")", core.load(address, -1), false);
        }
        for (int address = Integer.MAX_VALUE - 3; address > 0; address++) {
            Due.due("load(" + address + ")", core.load(address, -1), false);
        }
        nothingIsChanged(core);
    }

    private static void reachesTheEndOfTheLargest() {
        RvCore core = new RvCore(65536, 0);
        Due.due("load(65532)", core.load(65532, 0x0A0B0C0D), true);
        Due.due("load(65533)", core.load(65533, -1), false);
        Due.due("peek(65535)", core.peek(65535), 0x0A);
        Due.due("peek(65532)", core.peek(65532), 0x0D);
        Due.due("poke(65535)", core.poke(65535, 9), true);
        Due.due("peek(65535)", core.peek(65535), 9);
        Due.due("poke(65536)", core.poke(65536, 9), false);
    }
}
