import java.util.Arrays;
import java.util.Random;

/** Promises 1 to 14: runs of calls by chance (always the same ones), beside Model. */
public final class ModelTest {
    private static final int[] EDGES = {0, 1, -1, 2, 3, 4, 7, 8, 28, 64, 128, 0x88, 0x7FF, 0x800, Integer.MIN_VALUE,
            Integer.MAX_VALUE, Asm.TIME, Asm.TIME + 4, Asm.LIMIT, Asm.LIMIT + 4, Asm.PORT, 0x1800, 0x80000007};
    private static final int[] OPCODES = {0x37, 0x17, 0x6F, 0x67, 0x63, 0x03, 0x23, 0x13, 0x33, 0x33, 0x0F, 0x73, 0x03,
            0x23, 0x73};
    private static final int[] SYSTEM = {Asm.CALL, Asm.BREAK, Asm.BACK, Asm.WAIT};
    private static int answers = 0;
    private static final int[] seen = new int[5];
    private static final int[] causes = new int[12];

    public static void main(String[] args) {
        Random random = new Random(20261115);
        for (int i = 0; i < 12000; i++) {
            oneObject(random, i);
        }
        System.out.println("answers seen: " + Arrays.toString(seen) + ", causes: " + Arrays.toString(causes));
        for (int answer = 0; answer < 5; answer++) {
            Due.due("answer " + answer + " was seen often", seen[answer] > 500, true);
        }
        for (int cause = 0; cause < 12; cause++) {
            Due.due("cause " + cause + " was seen", cause > 7 && cause < 11 || causes[cause] > 20, true);
        }
        Due.end();
    }

    private static int number(Random random) {
        switch (random.nextInt(4)) {
            case 0: return random.nextInt();
            case 1: return random.nextInt(160);
            case 2: return random.nextInt(64) - 32;
            default: return EDGES[random.nextInt(EDGES.length)];
        }
    }

    private static int word(Random random) {
        if (random.nextInt(40) == 0) {
            return random.nextInt();
        }
        int opcode = OPCODES[random.nextInt(OPCODES.length)];
        // x1 often holds the PORT's address: it is seldom overwritten, and often stored at.
        int d = random.nextInt(5) == 0 ? random.nextInt(8) : 2 + random.nextInt(6);
        int f = random.nextInt(8);
        int s = random.nextInt(8);
        int t = random.nextInt(8);
        int[] kinds = {0, 0, 0, 1, 1, 32, random.nextInt(128)};
        int g = kinds[random.nextInt(kinds.length)];
        int near = (random.nextInt(24) - 8) * (random.nextInt(8) == 0 ? 1 : 4);
        switch (opcode) {
            case 0x37: return Asm.lui(d, EDGES[random.nextInt(EDGES.length)]);
            case 0x17: return Asm.auipc(d, random.nextInt(3) << 12);
            case 0x6F: return Asm.j(d, near & ~1);
            case 0x67: return Asm.i(opcode, d, f < 7 ? 0 : 1, s, near);
            case 0x63: return Asm.b(f, s, t, near & ~1);
            case 0x03: return Asm.i(opcode, d, f, s, near);
            case 0x23: return Asm.s(random.nextInt(8) == 0 ? f : f % 3, random.nextInt(2) == 0 ? 1 : s, t,
                    random.nextInt(3) == 0 ? near : 0);
            case 0x73: return random.nextInt(4) == 0 ? SYSTEM[random.nextInt(4)]
                    : Asm.control(f, d, s, Asm.LISTED[random.nextInt(Asm.LISTED.length)]);
            case 0x13: return f == 1 || f == 5 ? Asm.r(opcode, d, f, s, t, g) : Asm.i(opcode, d, f, s, number(random));
            default: return Asm.r(opcode, d, f, s, t, g);
        }
    }

    /** A start that gives the registers numbers and sets the timer, then words by chance. */
    private static Program program(Random random, int bytes) {
        Program program = new Program();
        for (int d = 1; d < 8; d++) {
            program.set(d, number(random));
        }
        if (random.nextInt(2) == 0) {
            program.store(Asm.LIMIT + 4, 0).store(Asm.LIMIT, random.nextInt(80));
            program.control(Asm.MIE, random.nextInt(4) == 0 ? 0x808 : 0x888);
            program.control(Asm.MSTATUS, random.nextInt(3) == 0 ? 0 : 8);
        }
        if (random.nextInt(2) == 0) {
            program.control(Asm.MTVEC, random.nextInt(bytes));
        }
        if (random.nextInt(2) == 0) {
            program.set(1, Asm.PORT);
        }
        if (random.nextInt(4) == 0) {
            program.set(2, Asm.TIME);
        }
        while (program.here() < bytes) {
            program.add(word(random));
        }
        return program;
    }

    private static void oneObject(Random random, int object) {
        int bytes = 192 + random.nextInt(80);
        int port = random.nextInt(4);
        RvCore core = new RvCore(bytes, port);
        Model model = new Model(bytes, port);
        Program program = program(random, bytes & ~3);
        program.putOn(core);
        for (int i = 0; i < program.here(); i++) {
            model.memory.put((long) i, (program.word(i / 4) >>> (8 * (i % 4))) & 255);
        }
        String text = "object " + object;
        // All calls of one object, those of alike() too, stay below the document's 512.
        for (int call = 0; call < 12; call++) {
            oneCall(random, core, model, text);
            alike(core, model, text + " behind call " + call);
        }
        core.reset();
        model.reset();
        alike(core, model, text + " behind reset()");
        for (long i = object % 3; i < program.here(); i += 3) {
            look(text + ": peek(" + i + ")", core.peek((int) i), model.memory.get(i));
        }
    }

    private static void oneCall(Random random, RvCore core, Model model, String text) {
        switch (random.nextInt(12)) {
            case 0:
                core.tick();
                model.tick();
                break;
            case 1:
                int address = random.nextInt(300);
                int b = random.nextInt();
                boolean within = model.memory.containsKey((long) address);
                look(text + ": poke(" + address + ")", core.poke(address, b) ? 1 : 0, within ? 1 : 0);
                if (within) {
                    model.memory.put((long) address, b & 255);
                }
                break;
            case 2:
            case 3:
            case 4:
            case 5:
                int n = random.nextInt(random.nextInt(3) == 0 ? 60 : 5);
                look(text + ": run(" + n + ")", core.run(n), model.run(n));
                seen[model.latest]++;
                break;
            default:
                int answer = model.step();
                look(text + ": step()", core.step(), answer);
                seen[answer]++;
                if (answer == RvCore.TRAPPED) {
                    causes[core.csr(Asm.MCAUSE) & 15]++;
                }
                break;
        }
    }

    private static void alike(RvCore core, Model model, String text) {
        for (int i = 0; i < 8; i++) {
            look(text + ": reg(" + i + ")", core.reg(i), (int) model.x[i]);
        }
        look(text + ": pc()", core.pc(), (int) model.pc);
        look(text + ": csr(mstatus)", core.csr(Asm.MSTATUS), model.csr(Asm.MSTATUS));
        int number = Asm.LISTED[answers % Asm.LISTED.length];
        look(text + ": csr(" + number + ")", core.csr(number), model.csr(number));
        look(text + ": told(0)", core.told(0), model.time.longValue());
        look(text + ": told(1)", core.told(1), model.limit.longValue());
        look(text + ": told(2)", core.told(2), model.retired);
        look(text + ": told(3)", core.told(3), model.waits ? 1 : 0);
        look(text + ": told(4)", core.told(4), model.latest);
        look(text + ": outSize()", core.outSize(), model.sent.size());
        int last = model.sent.size() - 1;
        look(text + ": out(" + last + ")", core.out(last), last < 0 ? -1 : model.sent.get(last));
    }

    private static void look(String call, long got, long want) {
        answers++;
        Due.due(call, got, want);
    }
}
