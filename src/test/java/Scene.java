import java.util.ArrayList;
import java.util.List;
import java.util.function.Consumer;

/**
 * The calls that bring a new machine to where one more call is tested. The machine is made anew whenever it is
 * looked at, so that all of its state can be compared although an object is used for 512 calls at most.
 */
final class Scene {
    /** Setting up does its instructions and holds its words here, away from what the tests look at. */
    private static final int SCRATCH_INSTRUCTION = 96;
    private static final int SCRATCH_WORDS = 104;
    private static final int SEALER = 7;
    private static final int INSTRUCTION_AT = 128;

    private final List<Consumer<CapMachine>> calls = new ArrayList<>();

    Scene call(Consumer<CapMachine> call) {
        calls.add(call);
        return this;
    }

    Scene grant(int r, int base, int top, int address, int permissions) {
        return call(m -> m.grant(r, base, top, address, permissions));
    }

    Scene poke(int address, int word, int bytes) {
        return call(m -> m.poke(address, word, bytes));
    }

    /** A register with an address, where the rest of it is of no matter. */
    Scene address(int r, int address) {
        return grant(r, 0, 0, address, 0);
    }

    Scene number(int r, int number) {
        poke(SCRATCH_WORDS, number, 4);
        grant(r, 0, 512, SCRATCH_WORDS, 1);
        return done(18, r, r, 0);
    }

    Scene sealed(int r, int type) {
        if (type == 0) {
            return this;
        }
        if (type == 1) {
            return done(15, r, r, 0);
        }
        grant(SEALER, 0, 16, type, 32);
        return done(13, r, r, SEALER);
    }

    Scene untagged(int r) {
        return done(29, r, r, 0);
    }

    /** What two words without a tag say, as a capability in a register. */
    Scene unpacked(int r, int address, int packed) {
        poke(SCRATCH_WORDS, address, 4);
        poke(SCRATCH_WORDS + 4, packed, 4);
        grant(r, 0, 512, SCRATCH_WORDS, 9);
        return done(19, r, r, 0);
    }

    /** A place gets a tag; what is stored there is the register that allowed it. */
    Scene tag(int place) {
        grant(SEALER, 0, 512, 8 * place, 255);
        return done(22, SEALER, SEALER, 0);
    }

    Scene done(int code, int a, int b, int c) {
        return call(m -> {
            m.poke(SCRATCH_INSTRUCTION, Checks.op(code, a, b, c), 4);
            m.grant(8, 0, 512, SCRATCH_INSTRUCTION, 255);
            Checks.due("setting up, code " + code, m.run(1) == 1 && m.state() == 0, true);
        });
    }

    /** The instruction that is tested, last of all, with a PC that allows everything. */
    Scene next(int code, int a, int b, int c) {
        return nextAt(INSTRUCTION_AT, code, a, b, c);
    }

    Scene nextAt(int at, int code, int a, int b, int c) {
        poke(at, Checks.op(code, a, b, c), 4);
        return grant(8, 0, 512, at, 255);
    }

    Scene copy() {
        Scene other = new Scene();
        other.calls.addAll(calls);
        return other;
    }

    CapMachine make() {
        CapMachine m = new CapMachine();
        for (Consumer<CapMachine> call : calls) {
            call.accept(m);
        }
        return m;
    }

    /** What is due behind one more call: as it was, but for what is told of the outcome. */
    Outcome after(Consumer<CapMachine> call) {
        return new Outcome(this, call);
    }

    Outcome after(String what, Consumer<CapMachine> call) {
        return after(call).called(what);
    }

    /** What is due behind a step without an exception: PC is 4 more, and nothing else has changed yet. */
    Outcome step(String what) {
        Outcome outcome = after(what, m -> Checks.due(what + ": run(1)", m.run(1), 1));
        return outcome.movesPc(4);
    }

    /** A step with this exception and nothing else, both with a HANDLER and with none. */
    void raises(String what, int cause) {
        Scene none = copy().call(m -> Checks.due(what + ": no HANDLER", m.look(9, 0), 0));
        none.after(what, m -> Checks.due(what + ": run(9)", m.run(9), 1)).exception(cause).check();
        Scene handled = copy().grant(9, 65, 80, 67, 140);
        handled.after(what, m -> Checks.due(what + ": run(9)", m.run(9), 1)).exception(cause).check();
    }

    void refuses(String what, Consumer<CapMachine> call) {
        after(what, m -> Checks.refused(what, () -> call.accept(m))).check();
    }

    void changesNothing(String what, Consumer<CapMachine> call) {
        after(what, call).check();
    }

    /** All that can be seen of a machine, by the calls of three objects: none of them gets more than 512. */
    int[] image(Consumer<CapMachine> last) {
        int[] image = new int[Outcome.SIZE];
        CapMachine m = made(last);
        image[Outcome.STATE] = m.state();
        image[Outcome.CAUSE] = m.cause();
        for (int r = 0; r <= 10; r++) {
            for (int what = 0; what <= 5; what++) {
                image[6 * r + what] = m.look(r, what);
            }
        }
        for (int p = 0; p < 64; p++) {
            image[Outcome.TAGS + p] = m.tagged(p) ? 1 : 0;
        }
        for (int half = 0; half < 512; half += 256) {
            m = made(last);
            for (int at = half; at < half + 256; at++) {
                image[Outcome.BYTES + at] = m.peek(at);
            }
        }
        return image;
    }

    private CapMachine made(Consumer<CapMachine> last) {
        CapMachine m = make();
        last.accept(m);
        return m;
    }
}
