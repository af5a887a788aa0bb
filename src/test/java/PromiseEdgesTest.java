import java.util.Arrays;
import java.util.function.Consumer;

/** Promises 1 to 9, sentence by sentence: each edge, just below and just above it, and refused calls change nothing. */
public final class PromiseEdgesTest extends Sentences {
    private static final int ADD_ONE = Checks.op(9, 0, 0, 1);
    private static final int STATES = 4;
    /** The steps of loopThen before its last instruction. */
    private static final int BEFORE_LAST = 1 + 250 * 2 + 1;

    public static void main(String[] args) {
        fiveHundredAndTwelveCalls();
        aNewObject();
        objectsAreApart();
        grantOfEachRegister();
        grantRefusesRegisters();
        grantRefusesBounds();
        grantOfPermissions();
        grantUnseals();
        grantOfInexactBounds();
        grantGoesOn();
        pokeOfBytes();
        pokeAtTheEnds();
        pokeTakesTags();
        pokeRefuses();
        pokeLeavesTheRest();
        runCounts();
        runOfNone();
        runAtMost();
        runEndsAtHalts();
        runEndsAtExceptions();
        runWhenNotGoingOn();
        states();
        causes();
        lookOfEveryPart();
        lookRefuses();
        peekOfEveryByte();
        peekRefuses();
        taggedOfEveryPlace();
        taggedOfNoPlace();
        Checks.end();
    }

    /** Going on, halted, stopped, and going on behind an exception; with a tag at places 32 to 34 and at the ends. */
    private static Scene inState(int kind) {
        Scene scene = scene().tag(0).tag(32).tag(33).tag(34).tag(63).grant(2, 8, 16, 9, 7).sealed(2, 5);
        if (kind == 1) {
            scene.next(HALT, 0, 0, 0).call(m -> m.run(1));
        } else if (kind == 2) {
            scene.next(33, 0, 0, 0).call(m -> m.run(1));
        } else if (kind == 3) {
            scene.grant(9, 0, 512, 64, 4).next(33, 0, 0, 0).call(m -> m.run(1));
        }
        return scene;
    }

    private static int stateOf(int kind) {
        return kind == 3 ? 0 : kind;
    }

    /** The call is refused in each state that the machine can be in, and nothing has changed. */
    private static void refusedAlways(String what, Consumer<CapMachine> call) {
        for (int kind = 0; kind < STATES; kind++) {
            inState(kind).refuses(what + ", state " + stateOf(kind), call);
        }
    }

    private static CapMachine usedUpTo(int calls) {
        CapMachine m = new CapMachine();
        m.poke(0, ADD_ONE, 4);
        m.poke(4, Checks.op(EQUAL, 0, 0, -2), 4);
        m.poke(511, 0xAB, 1);
        for (int i = 3; i < calls; i++) {
            m.tagged(i);
        }
        return m;
    }

    private static void fiveHundredAndTwelveCalls() {
        sentence("An object is used for at most 512 calls after it has been made");
        for (int before : new int[] {510, 511}) {
            Checks.due("run", usedUpTo(before).run(MAX), 2000);
            Checks.due("look", usedUpTo(before).look(1, 2), 512);
            Checks.due("peek", usedUpTo(before).peek(511), 0xAB);
            Checks.due("state", usedUpTo(before).state(), 0);
            Checks.due("cause", usedUpTo(before).cause(), 0);
            Checks.due("tagged", usedUpTo(before).tagged(63), false);
            CapMachine m = usedUpTo(before);
            Checks.refused("grant", () -> m.grant(10, 0, 0, 0, 0));
            CapMachine other = usedUpTo(before);
            Checks.refused("poke", () -> other.poke(509, 0, 4));
        }
        CapMachine poked = usedUpTo(510);
        poked.poke(508, 0x12345678, 4);
        Checks.due("peek behind the 511th call", poked.peek(511), 0x12);
        CapMachine granted = usedUpTo(510);
        granted.grant(3, 1, 2, 3, 4);
        Checks.due("look behind the 511th call", granted.look(3, 5), 3);
        CapMachine running = new CapMachine();
        Checks.program(running, 0, ADD_ONE, Checks.op(EQUAL, 0, 0, -2));
        for (int call = 2; call < 511; call++) {
            Checks.due("call " + call, running.run(2000), 2000);
        }
        Checks.due("a million steps", running.look(0, 5), 509 * 1000);
    }

    private static void aNewObject() {
        sentence("All registers, HANDLER and FAULT are the NUMBER 0, memory is 0, CAUSE 0. PC is a valid one: bounds 0, 512, "
            + "permissions 255, address 0; so is register 1.");
        int[] image = scene().image(m -> { });
        for (int i = 0; i < image.length; i++) {
            int part = i < Outcome.STATE && (i / 6 == 1 || i / 6 == 8) ? i % 6 : -1;
            int due = part == 0 ? 1 : part == 2 ? 512 : part == 3 ? 255 : 0;
            Checks.due("a new object, " + i, image[i], due);
        }
    }

    private static void objectsAreApart() {
        sentence("All registers, HANDLER and FAULT are the NUMBER 0, memory is 0, CAUSE 0.");
        CapMachine before = new CapMachine();
        CapMachine used = inState(2).grant(9, 1, 2, 3, 4).make();
        used.poke(300, -1, 4);
        CapMachine behind = new CapMachine();
        for (CapMachine m : new CapMachine[] {before, behind}) {
            for (int r = 0; r <= 10; r++) {
                boolean all = r == 1 || r == 8;
                Checks.capability("another object", m, r, all ? 1 : 0, 0, all ? 512 : 0, all ? 255 : 0, 0, 0);
            }
            Checks.due("another object's memory", Checks.wordAt(m, 300), 0);
            Checks.due("another object's tag", m.tagged(32), false);
            Checks.due("another object's state", m.state(), 0);
            Checks.due("another object's cause", m.cause(), 0);
        }
    }

    private static void grantOfEachRegister() {
        sentence("Register r (8 for PC, 9 for HANDLER) becomes a valid capability, unsealed.");
        for (int r = 0; r <= 9; r++) {
            int at = r;
            Outcome due = scene().after("grant " + r, m -> m.grant(at, 10 + at, 300 - at, at - 5, 200 + at));
            due.register(r, 1, 10 + r, 300 - r, 200 + r, 0, r - 5).check();
        }
    }

    private static void grantRefusesRegisters() {
        sentence("IllegalArgumentException, changing nothing, when r is not 0 .. 9");
        for (int r : new int[] {-1, -2, 10, 11, 16, 256, MIN, MAX}) {
            refusedAlways("grant of " + r, m -> m.grant(r, 0, 512, 0, 255));
        }
    }

    private static void grantRefusesBounds() {
        sentence("IllegalArgumentException, changing nothing, when ... base, top ... not as said");
        int[][] rows = {{-1, 0}, {0, -1}, {1, 0}, {512, 511}, {0, 513}, {513, 513}, {512, 513}, {MIN, 0}, {0, MAX}, {MAX, MIN}};
        for (int[] row : rows) {
            for (int r : new int[] {0, 8, 9}) {
                String what = "grant of " + r + " with " + row[0] + ", " + row[1];
                refusedAlways(what, m -> m.grant(r, row[0], row[1], 0, 255));
            }
        }
    }

    private static void grantOfPermissions() {
        sentence("IllegalArgumentException, changing nothing, when ... permissions not as said");
        for (int bits : new int[] {-1, -128, 256, 257, 511, 512, MIN, MAX}) {
            for (int r : new int[] {0, 8, 9}) {
                refusedAlways("grant of " + r + " with permissions " + bits, m -> m.grant(r, 0, 512, 0, bits));
            }
        }
        for (int bits : new int[] {0, 1, 2, 127, 128, 129, 254, 255}) {
            Outcome due = scene().after("grant with permissions " + bits, m -> m.grant(2, 0, 512, 0, bits));
            due.register(2, 1, 0, 512, bits, 0, 0).check();
        }
    }

    private static void grantUnseals() {
        sentence("becomes a valid capability, unsealed");
        for (int type : new int[] {1, 2, 15}) {
            Scene sealed = scene().grant(2, 0, 512, 0, 255).sealed(2, type);
            sealed.copy().after("sealed", m -> m.grant(2, 1, 3, 2, 7)).register(2, 1, 1, 3, 7, 0, 2).check();
            Scene bare = sealed.copy().untagged(2);
            bare.after("untagged", m -> m.grant(2, 1, 3, 2, 7)).register(2, 1, 1, 3, 7, 0, 2).check();
        }
        Scene beyond = scene().unpacked(2, -1, -1);
        beyond.after("bounds above 512", m -> m.grant(2, 1, 3, 2, 7)).register(2, 1, 1, 3, 7, 0, 2).check();
    }

    private static void grantOfInexactBounds() {
        sentence("(bounds need not be EXACT)");
        int[][] rows = {{1, 66}, {1, 65}, {0, 65}, {8, 73}, {7, 80}, {1, 512}, {0, 511}, {1, 511}, {447, 512}};
        for (int[] row : rows) {
            for (int r : new int[] {2, 8, 9}) {
                Outcome due = scene().after("bounds " + row[0] + ", " + row[1], m -> m.grant(r, row[0], row[1], 3, 5));
                due.register(r, 1, row[0], row[1], 5, 0, 3).check();
            }
        }
    }

    private static void grantGoesOn() {
        sentence("The machine goes on, if it halted or stopped.");
        for (int kind = 0; kind < STATES; kind++) {
            for (int r = 0; r <= 9; r++) {
                int at = r;
                Outcome due = inState(kind).after("grant of " + r, m -> m.grant(at, 8, 24, 12, 6));
                due.register(r, 1, 8, 24, 6, 0, 12).state(0).check();
            }
        }
        Scene halted = scene().next(HALT, 0, 0, 0).call(m -> m.run(1)).grant(3, 0, 1, 0, 0);
        halted.after("it halts again", m -> Checks.due("run(9)", m.run(9), 1)).state(1).check();
        Scene stopped = scene().next(33, 0, 0, 0).call(m -> m.run(1)).grant(3, 0, 1, 0, 0);
        stopped.after("it stops again", m -> Checks.due("run(9)", m.run(9), 1)).state(2).check();
    }

    private static void pokeOfBytes() {
        sentence("Bytes at address and the next ones become those of word, the lowest first, so many as bytes says (1 .. 4)");
        for (int word : new int[] {0x84030201, -1, 0, MIN, MAX, 0x000000FF, 0x7F80FF00, 256}) {
            int[] of = {word & 255, word >>> 8 & 255, word >>> 16 & 255, word >>> 24};
            for (int at : new int[] {299, 300, 301, 303, 304}) {
                for (int count = 1; count <= 4; count++) {
                    int bytes = count;
                    Scene scene = scene().poke(296, 0x55555555, 4).poke(300, 0x55555555, 4).poke(304, 0x55555555, 4);
                    Outcome due = scene.after("poke " + bytes + " of " + word + " at " + at, m -> m.poke(at, word, bytes));
                    due.bytes(at, Arrays.copyOf(of, bytes)).check();
                }
            }
        }
    }

    private static void pokeAtTheEnds() {
        sentence("when bytes is not as said, or not all are in memory");
        for (int count = 1; count <= 4; count++) {
            int bytes = count;
            int[] of = Arrays.copyOf(new int[] {1, 2, 3, 4}, bytes);
            for (int at : new int[] {0, 1, 511 - bytes, 512 - bytes}) {
                String what = "poke of " + bytes + " at " + at;
                scene().after(what, m -> m.poke(at, 0x04030201, bytes)).bytes(at, of).check();
            }
            for (int at : new int[] {-1, -bytes, 513 - bytes, 512, 513, MIN, MAX, MAX - bytes + 1}) {
                refusedAlways("poke of " + bytes + " at " + at, m -> m.poke(at, 0x04030201, bytes));
            }
        }
    }

    private static void pokeTakesTags() {
        sentence("the tags of their places go");
        for (int count = 1; count <= 4; count++) {
            int bytes = count;
            for (int at = 258; at <= 273; at++) {
                int start = at;
                Scene scene = scene().tag(31).tag(32).tag(33).tag(34).tag(35);
                Outcome due = scene.after("poke of " + bytes + " at " + at, m -> m.poke(start, 0x04030201, bytes));
                for (int i = 0; i < bytes; i++) {
                    due.bytes(at + i, i + 1).tag((at + i) / 8, 0);
                }
                due.check();
            }
        }
        Scene ends = scene().tag(0).tag(1).tag(62).tag(63);
        ends.after("the first byte", m -> m.poke(0, 9, 1)).bytes(0, 9).tag(0, 0).check();
        ends.after("the last of the first place", m -> m.poke(7, 9, 1)).bytes(7, 9).tag(0, 0).check();
        ends.after("the first of the last place", m -> m.poke(504, 9, 1)).bytes(504, 9).tag(63, 0).check();
        ends.after("the last byte", m -> m.poke(511, 9, 1)).bytes(511, 9).tag(63, 0).check();
        Scene same = scene().tag(32);
        same.after("what is there already", m -> m.poke(260, 0, 1)).tag(32, 0).check();
    }

    private static void pokeRefuses() {
        sentence("IllegalArgumentException, changing nothing, when bytes is not as said");
        for (int bytes : new int[] {0, -1, 5, 6, 8, MIN, MAX}) {
            for (int at : new int[] {0, 256, 511, 512, -1}) {
                refusedAlways("poke of " + bytes + " at " + at, m -> m.poke(at, 0x04030201, bytes));
            }
        }
    }

    private static void pokeLeavesTheRest() {
        sentence("Bytes at address and the next ones become those of word");
        for (int kind = 0; kind < STATES; kind++) {
            Outcome due = inState(kind).after("poke in state " + stateOf(kind), m -> m.poke(300, 0x04030201, 4));
            due.bytes(300, 1, 2, 3, 4).check();
        }
    }

    private static Scene counting() {
        return scene().poke(0, ADD_ONE, 4).poke(4, Checks.op(EQUAL, 0, 0, -2), 4);
    }

    private static void runCounts() {
        sentence("At most n steps are done ... Answers how many");
        for (int n : new int[] {1, 2, 3, 99, 100, 1999, 2000}) {
            Outcome due = counting().after("run(" + n + ")", m -> Checks.due("run(" + n + ")", m.run(n), n));
            due.number(0, (n + 1) / 2).part(8, 5, n % 2 == 0 ? 0 : 4).check();
        }
    }

    private static void runOfNone() {
        sentence("At most n steps are done");
        for (int n : new int[] {0, -1, -2000, -2001, MIN}) {
            counting().changesNothing("run(" + n + ")", m -> Checks.due("run(" + n + ")", m.run(n), 0));
        }
    }

    private static void runAtMost() {
        sentence("(above 2000 counts as 2000)");
        for (int n : new int[] {2000, 2001, 2002, 4000, 65536, MAX}) {
            Outcome due = counting().after("run(" + n + ")", m -> Checks.due("run(" + n + ")", m.run(n), 2000));
            due.number(0, 1000).check();
        }
    }

    /** A loop of 250 rounds, and then the instruction at 16. */
    private static Scene loopThen(int last) {
        Scene scene = scene().poke(0, Checks.op(NUMBER, 3, 0, 250), 4).poke(4, ADD_ONE, 4);
        scene.poke(8, Checks.op(LESS, 0, 3, -2), 4).poke(12, Checks.op(EQUAL, 0, 0, 0), 4);
        return scene.poke(16, last, 4).poke(20, ADD_ONE, 4);
    }

    private static void runEndsAtHalts() {
        sentence("HALT: the machine halts (PC stays). At most n steps are done");
        for (int by = -1; by <= 2; by++) {
            int n = BEFORE_LAST + by;
            int steps = Math.min(n, BEFORE_LAST + 1);
            Outcome due = loopThen(HALT).after("run(" + n + ")", m -> Checks.due("run(" + n + ")", m.run(n), steps));
            due.number(0, 250).number(3, 250).part(8, 5, by < 0 ? 12 : 16).state(by <= 0 ? 0 : 1).check();
        }
    }

    private static void runEndsAtExceptions() {
        sentence("none any more behind one with an exception. Answers how many (that one, too).");
        for (int handled = 0; handled <= 1; handled++) {
            for (int by = -1; by <= 2; by++) {
                int n = BEFORE_LAST + by;
                int steps = Math.min(n, BEFORE_LAST + 1);
                Scene scene = loopThen(33).poke(400, ADD_ONE, 4);
                if (handled == 1) {
                    scene.grant(9, 0, 512, 400, 4);
                }
                Outcome due = scene.after("run(" + n + ")", m -> Checks.due("run(" + n + ")", m.run(n), steps));
                due.number(0, 250).number(3, 250).part(8, 5, by < 0 ? 12 : 16);
                if (by > 0) {
                    due.exception(ILLEGAL);
                }
                due.check();
            }
        }
        Scene handled = loopThen(33).poke(400, ADD_ONE, 4).grant(9, 0, 512, 400, 4).call(m -> m.run(2000));
        handled.step("the handler's first step is the next run's").number(0, 251).check();
    }

    private static void runWhenNotGoingOn() {
        sentence("state: 0 it goes on, 1 it halted, 2 it stopped");
        for (int kind = 1; kind <= 2; kind++) {
            for (int n : new int[] {MIN, 0, 1, 2000, MAX}) {
                inState(kind).changesNothing("run(" + n + ")", m -> Checks.due("run(" + n + ")", m.run(n), 0));
            }
        }
    }

    private static void states() {
        sentence("0 it goes on, 1 it halted, 2 it stopped.");
        for (int kind = 0; kind < STATES; kind++) {
            int due = stateOf(kind);
            inState(kind).changesNothing("state()", m -> Checks.due("state()", m.state(), due));
        }
        Scene again = scene().next(33, 0, 0, 0).call(m -> m.run(1)).next(HALT, 0, 0, 0).call(m -> m.run(1));
        Checks.due("halted behind a stop", again.make().state(), 1);
        Scene stop = scene().next(HALT, 0, 0, 0).call(m -> m.run(1)).next(33, 0, 0, 0).call(m -> m.run(1));
        Checks.due("stopped behind a halt", stop.make().state(), 2);
    }

    private static void causes() {
        sentence("CAUSE, of the latest exception.");
        int[] due = {0, 0, ILLEGAL, ILLEGAL};
        for (int kind = 0; kind < STATES; kind++) {
            int cause = due[kind];
            inState(kind).changesNothing("cause()", m -> Checks.due("cause()", m.cause(), cause));
        }
        Scene scene = scene().next(33, 0, 0, 0).call(m -> m.run(1)).next(17, 2, 0, 0);
        Checks.due("the next is to come", scene.make().cause(), ILLEGAL);
        Checks.due("the latest", scene.call(m -> m.run(1)).make().cause(), TAG);
        Checks.due("behind a step without", scene.next(MOVE, 2, 0, 0).call(m -> m.run(1)).make().cause(), TAG);
        Checks.due("behind a halt", scene.next(HALT, 0, 0, 0).call(m -> m.run(1)).make().cause(), TAG);
        scene.call(m -> Checks.refused("grant", () -> m.grant(10, 0, 0, 0, 0)));
        Checks.due("behind a refused call", scene.make().cause(), TAG);
    }

    private static void lookOfEveryPart() {
        sentence("Of register r (8 PC, 9 HANDLER, 10 FAULT): the tag (what 0), base (1), top (2), permissions (3), type (4), "
            + "address (5).");
        Scene scene = scene();
        for (int r = 0; r <= 6; r++) {
            scene.grant(r, 20 + r, 400 + r, -100 + r, 100 + r).sealed(r, 2 + r);
        }
        scene.untagged(3).grant(7, 27, 407, -93, 107).grant(9, 29, 409, -91, 109);
        scene.poke(128, 33, 4).grant(8, 30, 410, 128, 111).call(m -> m.run(1)).grant(8, 28, 408, -92, 108);
        CapMachine m = scene.make();
        for (int r = 0; r <= 9; r++) {
            Checks.capability("look", m, r, r == 3 ? 0 : 1, 20 + r, 400 + r, 100 + r, r <= 6 ? 2 + r : 0, -100 + r);
        }
        Checks.capability("look at FAULT", m, 10, 1, 30, 410, 111, 0, 128);
        scene.changesNothing("look", x -> x.look(10, 5));
    }

    private static void lookRefuses() {
        sentence("look: IllegalArgumentException when r or what is not as said.");
        int[][] rows = {
            {-1, 0}, {11, 0}, {12, 5}, {MIN, 0}, {MAX, 0}, {0, -1}, {0, 6}, {10, 6}, {10, -1}, {0, MIN}, {0, MAX}, {-1, -1},
            {11, 6}, {-1, 6}, {MIN, MIN}, {MAX, MAX},
        };
        for (int[] row : rows) {
            refusedAlways("look(" + row[0] + ", " + row[1] + ")", m -> m.look(row[0], row[1]));
        }
        for (int r = -1; r <= 11; r++) {
            for (int what = -1; what <= 6; what++) {
                int at = r;
                int part = what;
                boolean there = r >= 0 && r <= 10 && what >= 0 && what <= 5;
                if (there) {
                    scene().changesNothing("look(" + r + ", " + what + ")", m -> m.look(at, part));
                } else {
                    scene().refuses("look(" + r + ", " + what + ")", m -> m.look(at, part));
                }
            }
        }
    }

    private static void peekOfEveryByte() {
        sentence("peek: The byte at an address.");
        for (int value : new int[] {0, 1, 127, 128, 255}) {
            for (int at : new int[] {0, 1, 7, 8, 255, 256, 510, 511}) {
                CapMachine m = scene().poke(at, value, 1).make();
                Checks.due("peek(" + at + ")", m.peek(at), value);
            }
        }
        scene().tag(32).changesNothing("peek", m -> Checks.due("peek(257)", m.peek(257), 1));
    }

    private static void peekRefuses() {
        sentence("peek: IllegalArgumentException when there is none.");
        for (int at : new int[] {-1, -2, -512, 512, 513, 1024, MIN, MAX}) {
            refusedAlways("peek(" + at + ")", m -> m.peek(at));
        }
    }

    private static void taggedOfEveryPlace() {
        sentence("Whether place p (0 .. 63) has its tag");
        for (int p = 0; p < 64; p++) {
            CapMachine m = scene().tag(p).make();
            for (int other = 0; other < 64; other++) {
                Checks.due("tagged(" + other + ")", m.tagged(other), other == p);
            }
        }
        inState(0).changesNothing("tagged", m -> Checks.due("tagged(32)", m.tagged(32), true));
    }

    private static void taggedOfNoPlace() {
        sentence("false when there is none");
        Scene scene = scene();
        for (int p = 0; p < 64; p += 63) {
            scene.tag(p);
        }
        for (int p : new int[] {-1, -2, -64, 64, 65, 127, 128, 512, MIN, MAX}) {
            scene.changesNothing("tagged(" + p + ")", m -> Checks.due("tagged(" + p + ")", m.tagged(p), false));
        }
    }
}
