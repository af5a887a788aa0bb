import java.util.Random;

/**
 * Random calls on random programs, from fixed seeds: no call throws but where the document says so, and what
 * has a tag is never more than what was granted.
 */
public final class RandomRunsTest {
    private static final int OBJECTS = 400;
    private static final int CALLS = 512;
    private static final int CALLS_OF_REGISTERS = 11 * 4;
    private static final int CALLS_OF_PLACES = 64 * 5;
    private static final int RUNS = 100;
    private static final int[] EDGES = {
        0, 1, -1, 2, 4, 7, 8, 15, 16, 63, 64, 255, 256, 504, 508, 511, 512, 513, 2000, 2001,
        Integer.MAX_VALUE, Integer.MIN_VALUE,
    };

    public static void main(String[] args) {
        for (int seed = 0; seed < OBJECTS; seed++) {
            oneObject(seed);
        }
        for (int seed = 0; seed < OBJECTS; seed++) {
            nothingIsGained(seed);
        }
        Checks.end();
    }

    private static int any(Random random, int below) {
        return random.nextInt(4) == 0 ? EDGES[random.nextInt(EDGES.length)] : random.nextInt(below);
    }

    private static int instruction(Random random) {
        int third = random.nextInt(3) == 0 ? random.nextInt(256) : random.nextInt(16) - 8;
        return Checks.op(random.nextInt(34), random.nextInt(256), random.nextInt(256), third);
    }

    /** The object that random calls of this seed leave behind. */
    private static CapMachine after(int calls, int seed) {
        Random random = new Random(seed);
        CapMachine m = new CapMachine();
        for (int call = 0; call < calls; call++) {
            String what = "object " + seed + ", call " + call;
            try {
                oneCall(m, random, what);
            } catch (RuntimeException e) {
                Checks.due(what + " threw " + e, true, false);
            }
        }
        return m;
    }

    private static void oneObject(int seed) {
        after(CALLS, seed);
        registersAreSound(after(CALLS - CALLS_OF_REGISTERS, seed), "object " + seed);
        placesAreSound(after(CALLS - CALLS_OF_PLACES, seed), "object " + seed);
    }

    private static void oneCall(CapMachine m, Random random, String what) {
        int r = any(random, 11);
        int x = any(random, 512);
        int y = any(random, 512);
        int z = any(random, 512);
        int bits = any(random, 256);
        int kind = random.nextInt(12);
        if (kind == 0) {
            boolean good = r >= 0 && r <= 9 && x >= 0 && x <= y && y <= 512 && bits >= 0 && bits <= 255;
            dueThrow(what + ", grant", good, () -> m.grant(r, x, y, z, bits));
        } else if (kind <= 5) {
            boolean good = r >= 1 && r <= 4 && x >= 0 && (long) x + r <= 512;
            int word = instruction(random);
            dueThrow(what + ", poke", good, () -> m.poke(x, word, r));
        } else if (kind == 6) {
            int steps = m.run(bits);
            Checks.due(what + ", run", steps >= 0 && steps <= Math.max(0, Math.min(2000, bits)), true);
        } else if (kind == 7) {
            dueThrow(what + ", look", r >= 0 && r <= 10 && bits >= 0 && bits <= 5, () -> m.look(r, bits));
        } else if (kind == 8) {
            dueThrow(what + ", peek", x >= 0 && x <= 511, () -> m.peek(x));
        } else if (kind == 9) {
            int state = m.state();
            Checks.due(what + ", state", state >= 0 && state <= 2, true);
        } else if (kind == 10) {
            int cause = m.cause();
            Checks.due(what + ", cause", cause >= 0 && cause <= 8, true);
        } else {
            Checks.due(what + ", tagged", m.tagged(x) && (x < 0 || x > 63), false);
        }
    }

    private static void dueThrow(String what, boolean good, Checks.Call call) {
        if (good) {
            call.go();
        } else {
            Checks.refused(what, call);
        }
    }

    private static void registersAreSound(CapMachine m, String what) {
        for (int r = 0; r <= 10; r++) {
            int top = m.look(r, 2);
            boolean bounds = m.look(r, 1) <= top && top <= 512;
            Checks.due(what + ", bounds of " + r, m.look(r, 0) == 0 || bounds, true);
            Checks.due(what + ", PC and HANDLER are unsealed", m.look(r, 4) == 0 || r < 8, true);
        }
    }

    private static void placesAreSound(CapMachine m, String what) {
        for (int p = 0; p < 64; p++) {
            int packed = Checks.wordAt(m, 8 * p + 4);
            int base = packed & 1023;
            int top = (packed >> 10) & 1023;
            Checks.due(what + ", bounds at place " + p, !m.tagged(p) || base <= top && top <= 512, true);
        }
    }

    /** All that a program is given lies in 0 .. 256 without SEAL: so does all that it makes of it. */
    private static void nothingIsGained(int seed) {
        for (int runs = 1; runs <= RUNS; runs += 33) {
            CapMachine m = confined(runs, seed);
            for (int r = 0; r <= 10; r++) {
                boolean within = m.look(r, 2) <= 256 && (m.look(r, 3) & ~31) == 0 && m.look(r, 4) <= 1;
                Checks.due("seed " + seed + ", register " + r + " is not more", m.look(r, 0) == 0 || within, true);
            }
        }
        CapMachine before = confined(0, seed);
        CapMachine behind = confined(RUNS, seed);
        for (int at = 256; at < 512; at++) {
            Checks.due("seed " + seed + ", upper byte " + at, behind.peek(at), before.peek(at));
        }
    }

    private static CapMachine confined(int runs, int seed) {
        Random random = new Random(seed);
        CapMachine m = new CapMachine();
        for (int at = 0; at < 512; at += 4) {
            m.poke(at, instruction(random), 4);
        }
        for (int r = 0; r <= 9; r++) {
            int top = r >= 8 ? 256 : random.nextInt(257);
            m.grant(r, r >= 8 ? 0 : random.nextInt(top + 1), top, 4 * random.nextInt(64), 31);
        }
        for (int i = 0; i < runs; i++) {
            m.run(20);
        }
        return m;
    }
}
