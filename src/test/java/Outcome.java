import java.util.function.Consumer;

/** All that is due behind a call: what was there before it, but for the changes that are told. */
final class Outcome {
    static final int STATE = 66;
    static final int CAUSE = 67;
    static final int TAGS = 68;
    static final int BYTES = TAGS + 64;
    static final int SIZE = BYTES + 512;

    private static final int PC = 8;
    private static final int HANDLER = 9;
    private static final int FAULT = 10;
    private static final int ADDRESS = 5;
    private static final int STOPPED = 2;

    private final Scene scene;
    private final Consumer<CapMachine> call;
    private final int[] due;
    private String what = "";

    Outcome(Scene scene, Consumer<CapMachine> call) {
        this.scene = scene;
        this.call = call;
        due = scene.image(m -> { });
    }

    Outcome called(String name) {
        what = name;
        return this;
    }

    Outcome register(int r, int... parts) {
        System.arraycopy(parts, 0, due, 6 * r, 6);
        return this;
    }

    Outcome number(int r, int number) {
        return register(r, 0, 0, 0, 0, 0, number);
    }

    /** One part of a register, as look numbers them. */
    Outcome part(int r, int part, int value) {
        due[6 * r + part] = value;
        return this;
    }

    Outcome becomes(int r, int other) {
        System.arraycopy(due, 6 * other, due, 6 * r, 6);
        return this;
    }

    Outcome movesPc(int bytes) {
        due[6 * PC + ADDRESS] += bytes;
        return this;
    }

    Outcome bytes(int at, int... bytes) {
        System.arraycopy(bytes, 0, due, BYTES + at, bytes.length);
        return this;
    }

    Outcome word(int at, int word) {
        return bytes(at, word & 255, (word >> 8) & 255, (word >> 16) & 255, (word >> 24) & 255);
    }

    Outcome tag(int place, int tag) {
        due[TAGS + place] = tag;
        return this;
    }

    Outcome state(int state) {
        due[STATE] = state;
        return this;
    }

    Outcome exception(int cause) {
        becomes(FAULT, PC);
        if (due[6 * HANDLER] == 1) {
            becomes(PC, HANDLER);
        } else {
            state(STOPPED);
        }
        due[CAUSE] = cause;
        return this;
    }

    void check() {
        int[] got = scene.image(call);
        for (int i = 0; i < SIZE; i++) {
            if (got[i] != due[i]) {
                Checks.due(what + ": " + nameOf(i), got[i], due[i]);
            }
        }
    }

    private static String nameOf(int i) {
        if (i < STATE) {
            return "look(" + i / 6 + ", " + i % 6 + ")";
        }
        if (i < TAGS) {
            return i == STATE ? "state()" : "cause()";
        }
        return i < BYTES ? "tagged(" + (i - TAGS) + ")" : "peek(" + (i - BYTES) + ")";
    }
}
