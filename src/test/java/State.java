import java.util.ArrayList;
import java.util.List;

/** All that can be told of an object, but for MEMORY and what the latest step gave. */
final class State {
    private final List<String> calls = new ArrayList<>();
    private final List<Long> answers = new ArrayList<>();

    State(RvCore core) {
        for (int i = 0; i < 32; i++) {
            add("reg(" + i + ")", core.reg(i));
        }
        for (int number : Asm.LISTED) {
            add("csr(" + number + ")", core.csr(number));
        }
        for (int which = 0; which < 4; which++) {
            add("told(" + which + ")", core.told(which));
        }
        add("pc()", core.pc());
        add("outSize()", core.outSize());
        add("out(0)", core.out(0));
        add("out(1)", core.out(1));
    }

    private void add(String call, long answer) {
        calls.add(call);
        answers.add(answer);
    }

    void stays(RvCore core, String text) {
        State now = new State(core);
        for (int i = 0; i < calls.size(); i++) {
            Due.due(calls.get(i) + " stays, " + text, now.answers.get(i), answers.get(i));
        }
    }
}
