/** Promises 1 to 9, each by its own method; what the instructions do is in InstructionsTest. */
public final class PromisesTest {
    private static final int ADD_ONE = Checks.op(9, 0, 0, 1);
    private static final int LOOP = Checks.op(4, 0, 0, -1);
    private static final int ILLEGAL = 33;

    public static void main(String[] args) {
        aNewObject();
        grantMakesCapabilities();
        grantRefuses();
        grantLetsTheMachineGoOn();
        grantedAddressMayBeFar();
        pokeStoresBytes();
        pokeTakesTags();
        pokeRefuses();
        runCountsSteps();
        runEndsAtHalt();
        runEndsBehindAnException();
        stateAndCause();
        exceptionsGoToTheHandler();
        lookRefuses();
        peekRefuses();
        taggedOfPlaces();
        Checks.end();
    }

    private static void aNewObject() {
        CapMachine m = new CapMachine();
        for (int r = 0; r <= 10; r++) {
            if (r == 1 || r == 8) {
                Checks.capability("promise 1", m, r, 1, 0, 512, 255, 0, 0);
            } else {
                Checks.number("promise 1", m, r, 0);
            }
        }
        Checks.due("promise 1: cause", m.cause(), 0);
        Checks.due("promise 1: state", m.state(), 0);
        CapMachine other = new CapMachine();
        for (int p = 0; p < 64; p++) {
            Checks.due("promise 1: tagged(" + p + ")", other.tagged(p), false);
            Checks.due("promise 1: word at " + 8 * p, Checks.wordAt(other, 8 * p), 0);
        }
    }

    private static void grantMakesCapabilities() {
        CapMachine m = new CapMachine();
        for (int r = 0; r <= 9; r++) {
            m.grant(r, r, 100 + r, -r, 10 * r);
            Checks.capability("promise 2", m, r, 1, r, 100 + r, 10 * r, 0, -r);
        }
        Checks.number("promise 2: FAULT stays", m, 10, 0);
        m.grant(0, 0, 0, Integer.MIN_VALUE, 0);
        Checks.capability("promise 2: the least", m, 0, 1, 0, 0, 0, 0, Integer.MIN_VALUE);
        m.grant(0, 512, 512, Integer.MAX_VALUE, 255);
        Checks.capability("promise 2: the most", m, 0, 1, 512, 512, 255, 0, Integer.MAX_VALUE);
        m.grant(2, 0, 512, 0, 255);
        Checks.seal(m, 2, 9);
        m.grant(2, 1, 2, 3, 4);
        Checks.capability("promise 2: unsealed", m, 2, 1, 1, 2, 4, 0, 3);
    }

    private static void grantRefuses() {
        CapMachine m = Checks.machine(0);
        m.run(1);
        Checks.refused("promise 2: r -1", () -> m.grant(-1, 0, 1, 0, 0));
        Checks.refused("promise 2: r 10", () -> m.grant(10, 0, 1, 0, 0));
        Checks.refused("promise 2: r 11", () -> m.grant(11, 0, 1, 0, 0));
        Checks.refused("promise 2: least r", () -> m.grant(Integer.MIN_VALUE, 0, 1, 0, 0));
        Checks.refused("promise 2: base -1", () -> m.grant(0, -1, 1, 0, 0));
        Checks.refused("promise 2: base above top", () -> m.grant(0, 2, 1, 0, 0));
        Checks.refused("promise 2: top 513", () -> m.grant(0, 0, 513, 0, 0));
        Checks.refused("promise 2: both 513", () -> m.grant(0, 513, 513, 0, 0));
        Checks.refused("promise 2: permissions -1", () -> m.grant(0, 0, 1, 0, -1));
        Checks.refused("promise 2: permissions 256", () -> m.grant(0, 0, 1, 0, 256));
        Checks.number("promise 2: nothing changed", m, 0, 0);
        Checks.number("promise 2: FAULT stays", m, 10, 0);
        Checks.due("promise 2: still halted", m.state(), 1);
    }

    private static void grantLetsTheMachineGoOn() {
        CapMachine m = Checks.machine(0);
        m.run(1);
        m.grant(3, 0, 1, 0, 0);
        Checks.due("promise 2: goes on behind a halt", m.state(), 0);
        Checks.due("promise 2: and halts again", m.run(5), 1);
        Checks.due("promise 2: halted", m.state(), 1);
        m.poke(0, ILLEGAL, 4);
        m.grant(3, 0, 1, 0, 0);
        m.run(1);
        Checks.due("promise 2: stopped", m.state(), 2);
        m.grant(9, 0, 512, 8, 4);
        Checks.due("promise 2: goes on behind a stop", m.state(), 0);
        Checks.due("promise 2: CAUSE stays", m.cause(), 8);
        Checks.due("promise 2: PC stays", m.look(8, 5), 0);
    }

    private static void grantedAddressMayBeFar() {
        CapMachine m = new CapMachine();
        m.grant(2, 8, 16, 5000, 255);
        Checks.capability("promise 2: far", m, 2, 1, 8, 16, 255, 0, 5000);
        m.grant(8, 8, 16, 5000, 255);
        m.run(1);
        Checks.due("promise 2: PC is out of bounds", m.cause(), 4);
    }

    private static void pokeStoresBytes() {
        for (int bytes = 1; bytes <= 4; bytes++) {
            CapMachine m = new CapMachine();
            m.poke(99, -1, 4);
            m.poke(103, -1, 4);
            m.poke(100, 0x8391A2B3, bytes);
            int[] due = {0xB3, 0xA2, 0x91, 0x83};
            for (int i = 0; i < 4; i++) {
                Checks.due("promise 3: byte " + i + " of " + bytes, m.peek(100 + i), i < bytes ? due[i] : 255);
            }
            Checks.due("promise 3: the byte before", m.peek(99), 255);
            Checks.due("promise 3: the byte behind", m.peek(104), 255);
            m.poke(512 - bytes, 0x04030201, bytes);
            Checks.due("promise 3: the last byte", m.peek(511), bytes);
        }
        CapMachine m = new CapMachine();
        m.poke(0, 77, 1);
        Checks.due("promise 3: the first byte", m.peek(0), 77);
    }

    private static CapMachine withTagsAt(int... addresses) {
        CapMachine m = new CapMachine();
        for (int address : addresses) {
            m.grant(2, 0, 512, address, 255);
            Checks.due("store a capability", Checks.exception(m, 22, 1, 2, 0), 0);
        }
        return m;
    }

    private static void pokeTakesTags() {
        CapMachine m = withTagsAt(256, 264, 272);
        m.poke(264, 0, 1);
        Checks.due("promise 3: the place before", m.tagged(32), true);
        Checks.due("promise 3: the place of the byte", m.tagged(33), false);
        Checks.due("promise 3: the place behind", m.tagged(34), true);
        m = withTagsAt(256, 264, 272);
        m.poke(263, 0, 1);
        Checks.due("promise 3: last byte of a place", m.tagged(32), false);
        Checks.due("promise 3: not the next place", m.tagged(33), true);
        m = withTagsAt(256, 264, 272);
        m.poke(261, 0, 4);
        Checks.due("promise 3: first of two places", m.tagged(32), false);
        Checks.due("promise 3: second of two places", m.tagged(33), false);
        Checks.due("promise 3: not a third place", m.tagged(34), true);
        m = withTagsAt(504);
        CapMachine last = m;
        Checks.refused("promise 3: beyond memory", () -> last.poke(509, 0, 4));
        Checks.due("promise 3: the tag stays if refused", m.tagged(63), true);
    }

    private static void pokeRefuses() {
        CapMachine m = new CapMachine();
        m.poke(508, -1, 4);
        m.poke(0, -1, 4);
        Checks.refused("promise 3: no bytes", () -> m.poke(0, 0, 0));
        Checks.refused("promise 3: five bytes", () -> m.poke(0, 0, 5));
        Checks.refused("promise 3: bytes below 0", () -> m.poke(0, 0, -1));
        Checks.refused("promise 3: least bytes", () -> m.poke(0, 0, Integer.MIN_VALUE));
        Checks.refused("promise 3: address -1", () -> m.poke(-1, 0, 2));
        Checks.refused("promise 3: address 512", () -> m.poke(512, 0, 1));
        Checks.refused("promise 3: 511 and 2", () -> m.poke(511, 0, 2));
        Checks.refused("promise 3: 510 and 3", () -> m.poke(510, 0, 3));
        Checks.refused("promise 3: 509 and 4", () -> m.poke(509, 0, 4));
        Checks.refused("promise 3: greatest address", () -> m.poke(Integer.MAX_VALUE, 0, 4));
        Checks.refused("promise 3: least address", () -> m.poke(Integer.MIN_VALUE, 0, 4));
        Checks.due("promise 3: nothing changed at the start", Checks.wordAt(m, 0), -1);
        Checks.due("promise 3: nothing changed at the end", Checks.wordAt(m, 508), -1);
    }

    private static void runCountsSteps() {
        CapMachine m = Checks.machine(ADD_ONE, Checks.op(4, 0, 0, 0), LOOP);
        Checks.due("promise 4: none for 0", m.run(0), 0);
        Checks.due("promise 4: none for -1", m.run(-1), 0);
        Checks.due("promise 4: none for the least", m.run(Integer.MIN_VALUE), 0);
        Checks.due("promise 4: PC stays", m.look(8, 5), 0);
        Checks.due("promise 4: one", m.run(1), 1);
        Checks.due("promise 4: PC is 4 more", m.look(8, 5), 4);
        Checks.number("promise 4: the step's work", m, 0, 1);
        Checks.due("promise 4: 1999", m.run(1999), 1999);
        CapMachine counting = Checks.machine(ADD_ONE, Checks.op(4, 0, 0, -2));
        Checks.due("promise 4: 2000", counting.run(2000), 2000);
        Checks.number("promise 4: half of them add", counting, 0, 1000);
        Checks.due("promise 4: 2001 is 2000", counting.run(2001), 2000);
        Checks.number("promise 4: half of 2000 add", counting, 0, 2000);
        Checks.due("promise 4: the greatest is 2000", counting.run(Integer.MAX_VALUE), 2000);
        Checks.number("promise 4: half of 2000 add again", counting, 0, 3000);
        Checks.due("promise 4: it goes on", counting.state(), 0);
    }

    private static void runEndsAtHalt() {
        CapMachine m = Checks.machine(ADD_ONE, 0, ADD_ONE);
        Checks.due("promise 4: the halt counts", m.run(100), 2);
        Checks.due("promise 4: PC stays at the halt", m.look(8, 5), 4);
        Checks.due("promise 5: halted", m.state(), 1);
        Checks.due("promise 6: no cause", m.cause(), 0);
        Checks.due("promise 4: none when halted", m.run(100), 0);
        Checks.number("promise 4: nothing behind the halt", m, 0, 1);
    }

    private static void runEndsBehindAnException() {
        CapMachine m = Checks.machine(ADD_ONE, ILLEGAL);
        Checks.program(m, 64, ADD_ONE, ADD_ONE, LOOP);
        m.grant(9, 0, 512, 64, 4);
        Checks.due("promise 4: the exception counts", m.run(100), 2);
        Checks.due("promise 4: PC is at the handler", m.look(8, 5), 64);
        Checks.number("promise 4: none of the handler's steps", m, 0, 1);
        Checks.due("promise 5: it goes on", m.state(), 0);
        Checks.due("promise 4: the handler's steps", m.run(2), 2);
        Checks.number("promise 4: the handler's work", m, 0, 3);
        CapMachine stopping = Checks.machine(ADD_ONE, ILLEGAL);
        Checks.due("promise 4: the exception counts", stopping.run(100), 2);
        Checks.due("promise 4: none when stopped", stopping.run(100), 0);
    }

    private static void stateAndCause() {
        CapMachine m = Checks.machine(ILLEGAL);
        m.run(1);
        Checks.due("promise 5: stopped", m.state(), 2);
        Checks.due("promise 6: ILLEGAL", m.cause(), 8);
        Checks.capability("FAULT is PC", m, 10, 1, 0, 512, 255, 0, 0);
        Checks.capability("PC stays", m, 8, 1, 0, 512, 255, 0, 0);
        m.grant(8, 16, 32, 20, 3);
        Checks.due("promise 5: goes on", m.state(), 0);
        Checks.due("promise 6: CAUSE stays", m.cause(), 8);
        m.run(1);
        Checks.due("promise 6: the latest, PERMISSION", m.cause(), 3);
        Checks.capability("FAULT is the latest PC", m, 10, 1, 16, 32, 3, 0, 20);
    }

    private static void exceptionsGoToTheHandler() {
        CapMachine m = Checks.machine(ILLEGAL);
        m.grant(8, 0, 8, 0, 5);
        m.grant(9, 64, 80, 66, 12);
        m.run(1);
        Checks.capability("PC is HANDLER", m, 8, 1, 64, 80, 12, 0, 66);
        Checks.capability("HANDLER stays", m, 9, 1, 64, 80, 12, 0, 66);
        Checks.capability("FAULT is the old PC", m, 10, 1, 0, 8, 5, 0, 0);
        Checks.due("an exception of the handler counts", m.run(9), 1);
        Checks.due("ALIGNMENT of the handler", m.cause(), 5);
        Checks.capability("FAULT is the handler's PC", m, 10, 1, 64, 80, 12, 0, 66);
        m.grant(9, 0, 8, 900, 0);
        m.run(1);
        Checks.capability("a HANDLER far away, without EXECUTE", m, 8, 1, 0, 8, 0, 0, 900);
        Checks.due("it goes on", m.state(), 0);
        m.run(1);
        Checks.due("PERMISSION comes before BOUNDS", m.cause(), 3);
    }

    private static void lookRefuses() {
        CapMachine m = new CapMachine();
        Checks.refused("promise 7: r -1", () -> m.look(-1, 0));
        Checks.refused("promise 7: r 11", () -> m.look(11, 0));
        Checks.refused("promise 7: greatest r", () -> m.look(Integer.MAX_VALUE, 0));
        Checks.refused("promise 7: least r", () -> m.look(Integer.MIN_VALUE, 0));
        Checks.refused("promise 7: what -1", () -> m.look(0, -1));
        Checks.refused("promise 7: what 6", () -> m.look(0, 6));
        Checks.refused("promise 7: greatest what", () -> m.look(0, Integer.MAX_VALUE));
        Checks.refused("promise 7: least what", () -> m.look(0, Integer.MIN_VALUE));
    }

    private static void peekRefuses() {
        CapMachine m = new CapMachine();
        m.poke(0, 0x80, 1);
        m.poke(511, 0xFF, 1);
        Checks.due("promise 8: the first", m.peek(0), 128);
        Checks.due("promise 8: the last", m.peek(511), 255);
        Checks.refused("promise 8: -1", () -> m.peek(-1));
        Checks.refused("promise 8: 512", () -> m.peek(512));
        Checks.refused("promise 8: the greatest", () -> m.peek(Integer.MAX_VALUE));
        Checks.refused("promise 8: the least", () -> m.peek(Integer.MIN_VALUE));
    }

    private static void taggedOfPlaces() {
        CapMachine m = withTagsAt(8, 504);
        for (int p = -1; p <= 64; p++) {
            Checks.due("promise 9: tagged(" + p + ")", m.tagged(p), p == 1 || p == 63);
        }
        CapMachine first = Checks.machine(Checks.op(22, 1, 1, 0));
        first.run(1);
        Checks.due("promise 9: the first place", first.tagged(0), true);
        Checks.due("promise 9: the greatest", m.tagged(Integer.MAX_VALUE), false);
        Checks.due("promise 9: the least", m.tagged(Integer.MIN_VALUE), false);
    }
}
