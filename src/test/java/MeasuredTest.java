import java.io.IOException;
import java.nio.file.Files;
import java.nio.file.Path;
import java.util.regex.Pattern;

/** Single steps whose due answers come from another machine of the kind; src/test/data/measured.txt tells how. */
public final class MeasuredTest {
    private static final Path LINES = Path.of("src/test/data/measured.txt");
    private static final Pattern GAP = Pattern.compile("[ :]+");
    private static final int BYTES = 65536, DATA = 0x200, DATA_SIZE = 16, ENABLED_BITS = 0x88;
    private static final int ENTRY = 0x700, WAY_BACK = 0x640, CAUSE = 0xF, SCRATCH = 0x5A5A0FF0, STATUS = 0x1808;
    private static final String BYTES_BEFORE = "807fff0001fe811290abcdef3456789a";

    public static void main(String[] args) throws IOException {
        String title = "";
        int measured = 0;
        for (String line : Files.readAllLines(LINES)) {
            if (line.startsWith("#")) {
                title = line.substring(1).trim();
            } else {
                look(title, line);
                measured++;
            }
        }
        Due.due("how many steps were measured", measured, 350);
        Due.end();
    }

    private static void look(String title, String line) {
        String[] parts = GAP.split(line);
        int word = number(parts[0]);
        RvCore core = ready(word, number(parts[1]), number(parts[2]), number(parts[3]), number(parts[4]));
        int[] before = registers(core);
        long retired = core.told(2);
        String text = " behind " + title + " [" + line + "]";

        // mcause tells whether the other machine took a trap: none has the cause that stood there before.
        boolean retires = parts[8].equals("=");
        Due.due("step()" + text, core.step(), retires ? RvCore.RETIRED : RvCore.TRAPPED);
        Due.due("told(2)" + text, core.told(2), retires ? retired + 1 : retired);
        Due.due("pc()" + text, core.pc(), number(parts[5]));
        Due.due("mepc" + text, core.csr(Asm.MEPC), numberOr(parts[7], WAY_BACK));
        Due.due("mcause" + text, core.csr(Asm.MCAUSE), numberOr(parts[8], CAUSE));
        Due.due("mtval" + text, core.csr(Asm.MTVAL), numberOr(parts[9], 0));
        Due.due("mstatus" + text, core.csr(Asm.MSTATUS) & ENABLED_BITS, number(parts[10]));
        Due.due("mscratch" + text, core.csr(Asm.MSCRATCH), numberOr(parts[11], SCRATCH));
        lookAtRegisters(core, before, (word >>> 7) & 31, number(parts[6]), text);
        lookAtData(core, parts[12].equals("=") ? BYTES_BEFORE : parts[12], text);
    }

    private static RvCore ready(int word, int place, int a, int b, int old) {
        Program program = new Program().control(Asm.MTVEC, ENTRY).control(Asm.MSTATUS, STATUS)
                .control(Asm.MSCRATCH, SCRATCH).control(Asm.MEPC, WAY_BACK).control(Asm.MCAUSE, CAUSE)
                .set((word >>> 7) & 31, old).set((word >>> 20) & 31, b).set((word >>> 15) & 31, a);
        RvCore core = program.add(Asm.j(0, place - program.here())).doneOn(BYTES, 0);
        Due.due("pc() before the step", core.pc(), place);
        // Outside of MEMORY there is no word to come.
        Due.due("load of the word", core.load(place, word), place < BYTES);
        for (int i = 0; i < DATA_SIZE; i++) {
            Due.due("poke of the data", core.poke(DATA + i, byteOf(BYTES_BEFORE, i)), true);
        }
        return core;
    }

    private static int[] registers(RvCore core) {
        int[] all = new int[32];
        for (int i = 0; i < 32; i++) {
            all[i] = core.reg(i);
        }
        return all;
    }

    private static void lookAtRegisters(RvCore core, int[] before, int d, int due, String text) {
        for (int i = 0; i < 32; i++) {
            Due.due("reg(" + i + ")" + text, core.reg(i), i == d ? due : before[i]);
        }
    }

    private static void lookAtData(RvCore core, String due, String text) {
        for (int i = 0; i < DATA_SIZE; i++) {
            Due.due("peek(" + (DATA + i) + ")" + text, core.peek(DATA + i), byteOf(due, i));
        }
    }

    private static int byteOf(String data, int i) {
        return number(data.substring(2 * i, 2 * i + 2));
    }

    private static int number(String hex) {
        return Integer.parseUnsignedInt(hex, 16);
    }

    private static int numberOr(String hex, int before) {
        return hex.equals("=") ? before : number(hex);
    }
}
