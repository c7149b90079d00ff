import java.util.ArrayList;
import java.util.List;

/** Words that come to address 0 and those behind it. */
final class Program {
    private final List<Integer> words = new ArrayList<>();

    Program add(int... more) {
        for (int word : more) {
            words.add(word);
        }
        return this;
    }

    /** Two instructions, whatever the number is. */
    Program set(int d, int number) {
        return add(Asm.lui(d, number + 0x800), Asm.addi(d, d, number << 20 >> 20));
    }

    /** Three instructions: a control register becomes the number; x31 is used for it. */
    Program control(int number, int value) {
        return set(31, value).add(Asm.control(1, 0, 31, number));
    }

    /** Ten instructions: TIME or LIMIT becomes the number. */
    Program timer(int address, long value) {
        return store(address + 4, (int) (value >>> 32)).store(address, (int) value);
    }

    /** Five instructions: four bytes of the number come to the address; x30, x31 are used for it. */
    Program store(int address, int value) {
        return set(30, address).set(31, value).add(Asm.s(2, 30, 31, 0));
    }

    int word(int i) {
        return words.get(i);
    }

    /** Where the next word comes. */
    int here() {
        return 4 * words.size();
    }

    RvCore on(int bytes, int port) {
        RvCore core = new RvCore(bytes, port);
        putOn(core);
        return core;
    }

    void putOn(RvCore core) {
        for (int i = 0; i < words.size(); i++) {
            if (!core.load(4 * i, words.get(i))) {
                throw new IllegalStateException("the program is longer than MEMORY");
            }
        }
    }

    /** All words have been done, each once. */
    RvCore doneOn(int bytes, int port) {
        RvCore core = on(bytes, port);
        Due.due("run of the whole program", core.run(words.size()), words.size());
        return core;
    }

    /** All words have been done, each once, while TIME stood still but for what the words stored there. */
    RvCore steppedOn(int bytes, int port) {
        RvCore core = on(bytes, port);
        for (int i = 0; i < words.size(); i++) {
            Due.due("step() of word " + i, core.step(), RvCore.RETIRED);
        }
        return core;
    }

    /** All but the last word have been done: step() does that one. */
    RvCore readyOn(int bytes, int port) {
        RvCore core = on(bytes, port);
        Due.due("run up to the last word", core.run(words.size() - 1), words.size() - 1);
        return core;
    }
}
