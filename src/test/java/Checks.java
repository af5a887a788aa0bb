/** What the tests share: counting wrong answers, and making machines and instructions. */
final class Checks {
    /** What look calls the parts of a capability, in its order. */
    private static final String[] PARTS = {"tag", "base", "top", "permissions", "type", "address"};
    private static int wrong = 0;
    private static String sentence = "";

    interface Call {
        void go();
    }

    /** The sentence of the document that is tested from here on; it is told with what is wrong. */
    static void sentence(String words) {
        sentence = "\"" + words + "\": ";
    }

    static void due(String what, long got, long want) {
        if (got != want) {
            tell(what + ": answered " + got + ", due is " + want);
        }
    }

    private static void tell(String what) {
        wrong++;
        System.out.println(sentence + what);
    }

    static void due(String what, boolean got, boolean want) {
        due(what, got ? 1 : 0, want ? 1 : 0);
    }

    static void refused(String what, Call call) {
        String got = "nothing";
        try {
            call.go();
        } catch (RuntimeException e) {
            got = e.getClass().getName();
        }
        if (!got.equals("java.lang.IllegalArgumentException")) {
            tell(what + ": threw " + got + ", due is IllegalArgumentException");
        }
    }

    static void capability(String what, CapMachine m, int r, int... parts) {
        for (int i = 0; i < PARTS.length; i++) {
            due(what + ", " + PARTS[i] + " of " + r, m.look(r, i), parts[i]);
        }
    }

    static void number(String what, CapMachine m, int r, int number) {
        capability(what, m, r, 0, 0, 0, 0, 0, number);
    }

    static void end() {
        System.out.println(wrong == 0 ? "all answers are as due" : wrong + " answers are not as due");
        if (wrong != 0) {
            System.exit(1);
        }
    }

    static int op(int code, int a, int b, int c) {
        return code | (a << 8) | (b << 16) | (c << 24);
    }

    static void program(CapMachine m, int at, int... instructions) {
        for (int i = 0; i < instructions.length; i++) {
            m.poke(at + 4 * i, instructions[i], 4);
        }
    }

    static CapMachine machine(int... instructions) {
        CapMachine m = new CapMachine();
        program(m, 0, instructions);
        return m;
    }

    static int wordAt(CapMachine m, int at) {
        return m.peek(at) | (m.peek(at + 1) << 8) | (m.peek(at + 2) << 16) | (m.peek(at + 3) << 24);
    }

    /** Does one instruction at address 0 of a machine without handler; answers its exception, or 0. */
    static int exception(CapMachine m, int code, int a, int b, int c) {
        m.poke(0, op(code, a, b, c), 4);
        m.grant(8, 0, 512, 0, 255);
        due("run(1) of code " + code, m.run(1), 1);
        return m.state() == 2 ? m.cause() : 0;
    }

    /** Makes register r any number, by way of the word at 120. */
    static void setNumber(CapMachine m, int r, int number) {
        m.poke(120, number, 4);
        due("PC into a register", exception(m, 31, r, 0, 0), 0);
        due("a word into a register", exception(m, 18, r, r, 120), 0);
        number("setNumber", m, r, number);
    }

    /** Gives register r a seal, by way of register 7. */
    static void seal(CapMachine m, int r, int type) {
        if (type == 1) {
            due("an entry", exception(m, 15, r, r, 0), 0);
            return;
        }
        m.grant(7, 0, 16, type, 32);
        due("a seal", exception(m, 13, r, r, 7), 0);
    }

    private Checks() {
    }
}
