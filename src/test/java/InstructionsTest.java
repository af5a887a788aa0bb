/** What a step does, code by code, with the exceptions in the order in which the document names them (promise 4). */
public final class InstructionsTest {
    private static final int NONE = 0;
    private static final int TAG = 1;
    private static final int SEALED = 2;
    private static final int PERMISSION = 3;
    private static final int BOUNDS = 4;
    private static final int ALIGNMENT = 5;
    private static final int INEXACT = 6;
    private static final int KIND = 7;
    private static final int ILLEGAL = 8;

    public static void main(String[] args) {
        executing();
        numbers();
        branches();
        branchesFarAway();
        move();
        addresses();
        nearness();
        bounds();
        boundsRefused();
        roundedBounds();
        permissions();
        sealing();
        unsealing();
        entries();
        jumps();
        jumpsRefused();
        bytesAndWords();
        capabilitiesInMemory();
        untaggedPlaces();
        storesTakeTags();
        accessPermissions();
        accessOrder();
        accessEdges();
        parts();
        clearingTheTag();
        within();
        relativeToPc();
        handler();
        illegalCodes();
        oneRegisterTwice();
        exceptionsChangeNothing();
        Checks.end();
    }

    private static void executing() {
        int[][] rows = {
            // base, top, address, permissions, exception
            {0, 512, 0, 4, NONE}, {0, 512, 508, 4, NONE}, {4, 8, 4, 4, NONE}, {0, 512, 0, 251, PERMISSION},
            {4, 8, 0, 4, BOUNDS}, {4, 7, 4, 4, BOUNDS}, {5, 12, 4, 4, BOUNDS}, {0, 512, 509, 4, BOUNDS},
            {0, 512, 512, 4, BOUNDS}, {0, 512, 2, 4, ALIGNMENT}, {0, 512, 505, 4, ALIGNMENT},
            {0, 512, 999, 0, PERMISSION}, {0, 512, Integer.MAX_VALUE, 4, BOUNDS}, {0, 512, -4, 4, BOUNDS},
            {0, 512, Integer.MIN_VALUE, 4, BOUNDS}, {0, 5, 2, 4, BOUNDS},
        };
        for (int[] row : rows) {
            CapMachine m = new CapMachine();
            m.grant(8, row[0], row[1], row[2], row[3]);
            Checks.due("executing at " + row[2], m.run(1), 1);
            Checks.due("executing at " + row[2] + ", cause", m.cause(), row[4]);
            Checks.due("executing at " + row[2] + ", state", m.state(), row[4] == NONE ? 1 : 2);
        }
        CapMachine end = Checks.machine();
        end.poke(508, Checks.op(1, 2, 0, 7), 4);
        end.grant(8, 0, 512, 508, 4);
        Checks.due("the last instruction and one behind it", end.run(3), 2);
        Checks.due("behind the end", end.cause(), BOUNDS);
        Checks.capability("FAULT has its tag behind the end", end, 10, 1, 0, 512, 4, 0, 512);
    }

    private static void numbers() {
        CapMachine m = new CapMachine();
        m.grant(2, 1, 9, 3, 255);
        Checks.due("number", Checks.exception(m, 1, 2, 255, 254), NONE);
        Checks.number("number with bytes above 127", m, 2, 65534);
        Checks.due("number", Checks.exception(m, 1, 0xFA, 0, 9), NONE);
        Checks.number("a's lowest three bits", m, 2, 9);
        Checks.setNumber(m, 3, Integer.MAX_VALUE);
        Checks.setNumber(m, 4, -1);
        m.grant(5, 0, 9, 1, 255);
        Checks.due("add", Checks.exception(m, 2, 6, 3, 5), NONE);
        Checks.number("a sum wraps", m, 6, Integer.MIN_VALUE);
        Checks.due("take", Checks.exception(m, 3, 6, 3, 4), NONE);
        Checks.number("a difference wraps", m, 6, Integer.MIN_VALUE);
        Checks.due("take", Checks.exception(m, 3, 6, 5, 3), NONE);
        Checks.number("the difference is b less c", m, 6, 1 - Integer.MAX_VALUE);
        Checks.due("add", Checks.exception(m, 2, 5, 5, 5), NONE);
        Checks.number("the sum of one register", m, 5, 2);
        m.grant(5, 0, 16, 4, 255);
        Checks.seal(m, 5, 3);
        Checks.due("add", Checks.exception(m, 2, 6, 5, 5), NONE);
        Checks.number("sealed ones have addresses, too", m, 6, 8);
    }

    private static void branches() {
        int[] numbers = {-5, 0, 3, Integer.MIN_VALUE, Integer.MAX_VALUE};
        for (int a : numbers) {
            for (int b : numbers) {
                CapMachine m = new CapMachine();
                Checks.setNumber(m, 2, a);
                Checks.setNumber(m, 3, b);
                boolean[] taken = {a == b, a < b, a != b};
                for (int i = 0; i < 3; i++) {
                    Checks.due("branch", Checks.exception(m, 4 + i, 2, 3, 10), NONE);
                    Checks.due("code " + (4 + i) + " of " + a + ", " + b, m.look(8, 5), taken[i] ? 44 : 4);
                }
            }
        }
        for (int code = 4; code <= 6; code++) {
            CapMachine m = new CapMachine();
            Checks.setNumber(m, 3, code == 4 ? 0 : 1);
            m.poke(100, Checks.op(code, 2, 3, -3), 4);
            m.grant(8, 0, 512, 100, 4);
            m.run(1);
            Checks.capability("code " + code + ", back by two", m, 8, 1, 0, 512, 4, 0, 92);
        }
    }

    private static void branchesFarAway() {
        int[][] rows = {
            // base, top, at, imm, tag behind it
            {0, 4, 0, 15, 1}, {0, 4, 0, 16, 0}, {0, 4, 0, -17, 1}, {0, 4, 0, -18, 0}, {0, 512, 508, 15, 1}, {0, 512, 508, 16, 0},
            {256, 260, 256, -17, 1}, {256, 260, 256, -18, 0},
        };
        for (int[] row : rows) {
            CapMachine m = new CapMachine();
            m.poke(row[2], Checks.op(4, 0, 0, row[3]), 4);
            m.grant(8, row[0], row[1], row[2], 4);
            Checks.due("a branch is no exception", m.run(1), 1);
            int to = row[2] + 4 + 4 * row[3];
            Checks.due("no exception yet", m.cause(), NONE);
            Checks.capability("a branch to " + to, m, 8, row[4], row[0], row[1], 4, 0, to);
            m.run(1);
            boolean inside = to >= row[0] && to + 4 <= row[1];
            Checks.due("then to " + to, m.cause(), row[4] == 0 ? TAG : inside ? NONE : BOUNDS);
            Checks.capability("FAULT of " + to, m, 10, row[4], row[0], row[1], 4, 0, to);
        }
    }

    private static void move() {
        CapMachine m = new CapMachine();
        m.grant(2, 3, 7, 6, 48);
        Checks.seal(m, 2, 12);
        Checks.due("move", Checks.exception(m, 7, 5, 2, 0), NONE);
        Checks.capability("a sealed one is moved", m, 5, 1, 3, 7, 48, 12, 6);
        Checks.capability("and stays", m, 2, 1, 3, 7, 48, 12, 6);
        m.grant(2, 3, 7, 6000, 48);
        Checks.due("move", Checks.exception(m, 7, 5, 2, 0), NONE);
        Checks.capability("a far one keeps its tag", m, 5, 1, 3, 7, 48, 0, 6000);
        Checks.due("move", Checks.exception(m, 7, 5, 0, 0), NONE);
        Checks.number("a number is moved", m, 5, 0);
    }

    private static void addresses() {
        CapMachine m = new CapMachine();
        m.grant(2, 100, 200, 150, 65);
        m.grant(3, 0, 300, 180, 2);
        Checks.due("8", Checks.exception(m, 8, 4, 2, 3), NONE);
        Checks.capability("8", m, 4, 1, 100, 200, 65, 0, 180);
        Checks.due("9", Checks.exception(m, 9, 4, 2, 127), NONE);
        Checks.capability("9 by 127", m, 4, 0, 100, 200, 65, 0, 277);
        Checks.due("9", Checks.exception(m, 9, 4, 2, -50), NONE);
        Checks.capability("9 by -50", m, 4, 1, 100, 200, 65, 0, 100);
        Checks.due("9", Checks.exception(m, 9, 4, 2, 128), NONE);
        Checks.capability("9 by -128", m, 4, 0, 100, 200, 65, 0, 22);
        Checks.setNumber(m, 5, Integer.MAX_VALUE);
        Checks.due("9", Checks.exception(m, 9, 5, 5, 1), NONE);
        Checks.number("a number wraps", m, 5, Integer.MIN_VALUE);
        for (int type : new int[] {1, 2, 15}) {
            m.grant(2, 100, 200, 150, 65 | 4);
            Checks.seal(m, 2, type);
            Checks.due("8 of a sealed one", Checks.exception(m, 8, 4, 2, 3), SEALED);
            Checks.due("9 of a sealed one", Checks.exception(m, 9, 4, 2, 0), SEALED);
            Checks.due("12 of a sealed one", Checks.exception(m, 12, 4, 2, 3), SEALED);
            Checks.due("tag off", Checks.exception(m, 29, 2, 2, 0), NONE);
            Checks.due("8 without tag", Checks.exception(m, 8, 4, 2, 3), NONE);
            Checks.capability("8 without tag", m, 4, 0, 100, 200, 69, type, 180);
            Checks.due("9 without tag", Checks.exception(m, 9, 4, 2, 3), NONE);
            Checks.capability("9 without tag", m, 4, 0, 100, 200, 69, type, 153);
            Checks.due("12 without tag", Checks.exception(m, 12, 4, 2, 3), NONE);
            Checks.capability("12 without tag", m, 4, 0, 100, 200, 69 & 180, type, 150);
        }
    }

    private static void nearness() {
        int[][] rows = {{36, 1}, {35, 0}, {263, 1}, {264, 0}, {Integer.MIN_VALUE, 0}, {Integer.MAX_VALUE, 0}, {-1, 0}};
        for (int[] row : rows) {
            CapMachine m = new CapMachine();
            m.grant(2, 100, 200, 150, 255);
            Checks.setNumber(m, 3, row[0]);
            Checks.due("8", Checks.exception(m, 8, 4, 2, 3), NONE);
            Checks.capability("8 to " + row[0], m, 4, row[1], 100, 200, 255, 0, row[0]);
            m.grant(2, 100, 200, row[0] - 1, 255);
            Checks.due("9", Checks.exception(m, 9, 4, 2, 1), NONE);
            Checks.capability("9 to " + row[0], m, 4, row[1], 100, 200, 255, 0, row[0]);
        }
        CapMachine m = new CapMachine();
        m.grant(2, 100, 200, 35, 255);
        Checks.due("9", Checks.exception(m, 9, 4, 2, 1), NONE);
        Checks.capability("from far to near", m, 4, 1, 100, 200, 255, 0, 36);
        m.grant(2, 0, 0, -64, 255);
        Checks.due("9", Checks.exception(m, 9, 2, 2, 0), NONE);
        Checks.capability("below 0", m, 2, 1, 0, 0, 255, 0, -64);
        Checks.due("9", Checks.exception(m, 9, 2, 2, -1), NONE);
        Checks.due("far below 0", m.look(2, 0), 0);
        Checks.due("9", Checks.exception(m, 9, 2, 2, 1), NONE);
        Checks.due("a tag does not come back", m.look(2, 0), 0);
    }

    private static void bounds() {
        int[][] rows = {
            // address, length, base and top made, exception of 10, of 11
            {0, 512, 0, 512, NONE, NONE}, {3, 64, 3, 67, NONE, NONE}, {3, 65, 0, 72, NONE, INEXACT},
            {8, 65, 8, 80, NONE, INEXACT}, {7, 65, 0, 72, NONE, INEXACT}, {8, 72, 8, 80, NONE, NONE},
            {1, 0, 1, 1, NONE, NONE}, {512, 0, 512, 512, NONE, NONE}, {512, 1, 0, 0, BOUNDS, BOUNDS},
            {0, 513, 0, 0, BOUNDS, BOUNDS}, {0, -1, 0, 0, BOUNDS, BOUNDS}, {-1, 1, 0, 0, BOUNDS, BOUNDS},
            {100, -1, 0, 0, BOUNDS, BOUNDS}, {513, 0, 0, 0, BOUNDS, BOUNDS}, {-1, 513, 0, 0, BOUNDS, BOUNDS},
            {1, 510, 0, 512, NONE, INEXACT}, {1, 511, 0, 512, NONE, INEXACT}, {9, 71, 8, 80, NONE, INEXACT},
            {1, Integer.MAX_VALUE, 0, 0, BOUNDS, BOUNDS}, {0, Integer.MIN_VALUE, 0, 0, BOUNDS, BOUNDS},
            {Integer.MAX_VALUE, Integer.MAX_VALUE, 0, 0, BOUNDS, BOUNDS},
            {Integer.MIN_VALUE, Integer.MIN_VALUE, 0, 0, BOUNDS, BOUNDS},
        };
        for (int[] row : rows) {
            for (int code = 10; code <= 11; code++) {
                CapMachine m = new CapMachine();
                m.grant(2, 0, 512, row[0], 77);
                Checks.setNumber(m, 3, row[1]);
                String what = "code " + code + " at " + row[0] + " for " + row[1];
                int due = row[code - 6];
                Checks.due(what, Checks.exception(m, code, 4, 2, 3), due);
                if (due == NONE) {
                    Checks.capability(what, m, 4, 1, row[2], row[3], 77, 0, row[0]);
                } else {
                    Checks.number(what, m, 4, 0);
                }
            }
        }
    }

    private static void boundsRefused() {
        for (int code = 10; code <= 11; code++) {
            CapMachine m = new CapMachine();
            Checks.setNumber(m, 3, -1);
            m.grant(2, 0, 512, 600, 255);
            Checks.seal(m, 2, 7);
            Checks.due("SEALED before BOUNDS", Checks.exception(m, code, 4, 2, 3), SEALED);
            Checks.due("tag off", Checks.exception(m, 29, 2, 2, 0), NONE);
            Checks.due("TAG before SEALED", Checks.exception(m, code, 4, 2, 3), TAG);
            m.grant(2, 0, 512, 0, 255);
            Checks.seal(m, 2, 1);
            Checks.due("an entry is sealed", Checks.exception(m, code, 4, 2, 3), SEALED);
            m.grant(3, 0, 8, 5, 0);
            Checks.seal(m, 3, 2);
            Checks.due("c may be a sealed one", Checks.exception(m, code, 4, 1, 3), NONE);
            Checks.capability("c may be a sealed one", m, 4, 1, 0, 5, 255, 0, 0);
        }
    }

    private static void roundedBounds() {
        int[][] rows = {
            // b's base and top, address, length, exception of 10, of 11
            {3, 104, 3, 100, BOUNDS, BOUNDS}, {0, 103, 0, 103, BOUNDS, BOUNDS}, {0, 104, 3, 100, NONE, INEXACT},
            {3, 104, 8, 96, NONE, NONE}, {3, 103, 3, 64, NONE, NONE}, {3, 103, 39, 64, NONE, NONE},
            {3, 103, 38, 65, BOUNDS, BOUNDS}, {3, 103, 2, 10, BOUNDS, BOUNDS}, {3, 103, 100, 4, BOUNDS, BOUNDS},
        };
        for (int[] row : rows) {
            for (int code = 10; code <= 11; code++) {
                CapMachine m = new CapMachine();
                m.grant(2, row[0], row[1], row[2], 255);
                Checks.setNumber(m, 3, row[3]);
                String what = "code " + code + " in " + row[0] + ", " + row[1] + " at " + row[2] + " for " + row[3];
                Checks.due(what, Checks.exception(m, code, 4, 2, 3), row[code - 6]);
            }
        }
    }

    private static void permissions() {
        CapMachine m = new CapMachine();
        m.grant(2, 100, 200, 9000, 0xC3);
        Checks.setNumber(m, 3, 0x7FFFFF5A);
        Checks.due("12", Checks.exception(m, 12, 4, 2, 3), NONE);
        Checks.capability("12", m, 4, 1, 100, 200, 0x42, 0, 9000);
        Checks.setNumber(m, 3, -1);
        Checks.due("12", Checks.exception(m, 12, 4, 2, 3), NONE);
        Checks.capability("12 by -1", m, 4, 1, 100, 200, 0xC3, 0, 9000);
        Checks.setNumber(m, 3, 256);
        Checks.due("12", Checks.exception(m, 12, 4, 2, 3), NONE);
        Checks.capability("12 by 256", m, 4, 1, 100, 200, 0, 0, 9000);
    }

    private static void sealing() {
        int[][] rows = {
            // c's base, top, address, permissions, exception
            {2, 16, 2, 32, NONE}, {2, 16, 15, 32, NONE}, {2, 15, 14, 255, NONE}, {5, 6, 5, 32, NONE},
            {2, 16, 5, 255 - 32, PERMISSION}, {2, 15, 15, 32, BOUNDS}, {3, 16, 2, 32, BOUNDS}, {5, 5, 5, 32, BOUNDS},
            {0, 20, 0, 32, KIND}, {0, 20, 1, 32, KIND}, {0, 20, 16, 32, KIND}, {0, 20, 20, 32, BOUNDS},
            {0, 20, -1, 32, BOUNDS}, {0, 20, 99, 0, PERMISSION}, {0, 512, 511, 32, KIND},
        };
        for (int[] row : rows) {
            CapMachine m = new CapMachine();
            m.grant(2, 1, 3, 700, 131);
            m.grant(3, row[0], row[1], row[2], row[3]);
            String what = "sealing with " + row[2];
            Checks.due(what, Checks.exception(m, 13, 4, 2, 3), row[4]);
            if (row[4] == NONE) {
                Checks.capability(what, m, 4, 1, 1, 3, 131, row[2], 700);
            } else {
                Checks.number(what, m, 4, 0);
            }
        }
        CapMachine m = new CapMachine();
        m.grant(3, 0, 16, 99, 0);
        Checks.due("b without tag", Checks.exception(m, 13, 4, 0, 3), TAG);
        Checks.due("c without tag", Checks.exception(m, 13, 4, 1, 0), TAG);
        Checks.seal(m, 3, 4);
        Checks.due("c sealed", Checks.exception(m, 13, 4, 1, 3), SEALED);
        Checks.due("c sealed, b without tag", Checks.exception(m, 13, 4, 0, 3), TAG);
        m.grant(5, 0, 16, 99, 0);
        Checks.due("b sealed", Checks.exception(m, 13, 4, 3, 5), SEALED);
        Checks.due("b sealed, c without tag", Checks.exception(m, 13, 4, 3, 0), TAG);
        Checks.seal(m, 1, 1);
        m.grant(5, 0, 16, 9, 32);
        Checks.due("b an entry", Checks.exception(m, 13, 4, 1, 5), SEALED);
    }

    private static void unsealing() {
        int[][] rows = {
            // b's type, c's base, top, address, permissions, exception
            {2, 2, 3, 2, 64, NONE}, {15, 0, 16, 15, 64, NONE}, {9, 0, 16, 9, 255, NONE}, {0, 0, 16, 0, 64, SEALED},
            {1, 0, 16, 1, 64, SEALED}, {9, 0, 16, 8, 64, KIND}, {9, 0, 16, 8, 0, KIND}, {9, 0, 9, 8, 0, KIND},
            {9, 0, 16, 9, 255 - 64, PERMISSION}, {9, 0, 9, 9, 0, PERMISSION}, {9, 0, 9, 9, 64, BOUNDS},
            {9, 10, 16, 9, 64, BOUNDS}, {9, 9, 10, 9, 64, NONE},
        };
        for (int[] row : rows) {
            CapMachine m = new CapMachine();
            m.grant(2, 1, 3, 700, 135);
            if (row[0] != 0) {
                Checks.seal(m, 2, row[0]);
            }
            m.grant(3, row[1], row[2], row[3], row[4]);
            String what = "unsealing " + row[0] + " with " + row[3];
            Checks.due(what, Checks.exception(m, 14, 4, 2, 3), row[5]);
            if (row[5] == NONE) {
                Checks.capability(what, m, 4, 1, 1, 3, 135, 0, 700);
            } else {
                Checks.number(what, m, 4, 0);
            }
        }
        CapMachine m = new CapMachine();
        m.grant(2, 0, 16, 5, 255);
        Checks.seal(m, 2, 5);
        m.grant(3, 0, 16, 5, 255);
        Checks.seal(m, 3, 6);
        Checks.due("c without tag", Checks.exception(m, 14, 4, 2, 0), TAG);
        Checks.due("b without tag", Checks.exception(m, 14, 4, 0, 1), TAG);
        Checks.due("b without tag, c sealed", Checks.exception(m, 14, 4, 0, 3), TAG);
        Checks.due("c sealed", Checks.exception(m, 14, 4, 2, 3), SEALED);
        Checks.due("tag off", Checks.exception(m, 29, 2, 2, 0), NONE);
        Checks.due("b sealed, without tag", Checks.exception(m, 14, 4, 2, 1), TAG);
    }

    private static void entries() {
        CapMachine m = new CapMachine();
        m.grant(2, 8, 24, 999, 4);
        Checks.due("15", Checks.exception(m, 15, 4, 2, 0), NONE);
        Checks.capability("15", m, 4, 1, 8, 24, 4, 1, 999);
        Checks.due("an entry of an entry", Checks.exception(m, 15, 5, 4, 0), SEALED);
        m.grant(2, 8, 24, 999, 251);
        Checks.due("without EXECUTE", Checks.exception(m, 15, 4, 2, 0), PERMISSION);
        Checks.seal(m, 2, 3);
        Checks.due("SEALED before PERMISSION", Checks.exception(m, 15, 4, 2, 0), SEALED);
        Checks.due("tag off", Checks.exception(m, 29, 2, 2, 0), NONE);
        Checks.due("TAG before SEALED", Checks.exception(m, 15, 4, 2, 0), TAG);
    }

    private static void jumps() {
        CapMachine m = new CapMachine();
        m.grant(8, 96, 104, 100, 13);
        m.poke(100, Checks.op(16, 2, 3, 0), 4);
        m.grant(3, 200, 300, 240, 6);
        Checks.due("a jump", m.run(1), 1);
        Checks.capability("PC is b", m, 8, 1, 200, 300, 6, 0, 240);
        Checks.capability("a is an entry behind the jump", m, 2, 1, 96, 104, 13, 1, 104);
        Checks.capability("b stays", m, 3, 1, 200, 300, 6, 0, 240);
        Checks.seal(m, 3, 1);
        Checks.due("a jump to an entry", Checks.exception(m, 16, 2, 3, 0), NONE);
        Checks.capability("PC is b, unsealed", m, 8, 1, 200, 300, 6, 0, 240);
        Checks.capability("b is still an entry", m, 3, 1, 200, 300, 6, 1, 240);
        Checks.due("a jump with a as b", Checks.exception(m, 16, 3, 3, 0), NONE);
        Checks.capability("PC is what b was", m, 8, 1, 200, 300, 6, 0, 240);
        Checks.capability("b is the link", m, 3, 1, 0, 512, 255, 1, 4);
        Checks.due("back by the link", Checks.exception(m, 16, 0, 3, 0), NONE);
        Checks.capability("PC is behind the jump", m, 8, 1, 0, 512, 255, 0, 4);
        m.grant(3, 0, 8, 5000, 4);
        Checks.due("a jump far away", Checks.exception(m, 16, 2, 3, 0), NONE);
        Checks.capability("PC is what was granted", m, 8, 1, 0, 8, 4, 0, 5000);
        m.run(1);
        Checks.due("out of bounds", m.cause(), BOUNDS);
    }

    private static void jumpsRefused() {
        CapMachine m = new CapMachine();
        m.grant(3, 0, 512, 8, 251);
        Checks.due("without EXECUTE", Checks.exception(m, 16, 2, 3, 0), PERMISSION);
        Checks.seal(m, 3, 2);
        Checks.due("sealed", Checks.exception(m, 16, 2, 3, 0), SEALED);
        Checks.due("tag off", Checks.exception(m, 29, 3, 3, 0), NONE);
        Checks.due("without tag", Checks.exception(m, 16, 2, 3, 0), TAG);
        Checks.number("no link", m, 2, 0);
        Checks.capability("PC stays", m, 8, 1, 0, 512, 255, 0, 0);
    }

    private static void bytesAndWords() {
        CapMachine m = new CapMachine();
        m.grant(2, 256, 272, 264, 3);
        m.poke(260, 0x80FEFF91, 4);
        Checks.due("17", Checks.exception(m, 17, 3, 2, -4), NONE);
        Checks.number("a byte", m, 3, 0x91);
        Checks.due("17", Checks.exception(m, 17, 3, 2, -3), NONE);
        Checks.number("the byte 255", m, 3, 255);
        Checks.due("18", Checks.exception(m, 18, 3, 2, -4), NONE);
        Checks.number("a word", m, 3, 0x80FEFF91);
        Checks.due("20", Checks.exception(m, 20, 3, 2, 7), NONE);
        Checks.due("a byte stored", m.peek(271), 0x91);
        Checks.due("the byte before", m.peek(270), 0);
        Checks.due("the byte behind", m.peek(272), 0);
        Checks.due("21", Checks.exception(m, 21, 3, 2, 0), NONE);
        Checks.due("a word stored", Checks.wordAt(m, 264), 0x80FEFF91);
        Checks.due("the word behind", Checks.wordAt(m, 268), 0x91000000);
        m.grant(3, 1, 2, 0x01020304, 255);
        Checks.due("21", Checks.exception(m, 21, 3, 2, 4), NONE);
        Checks.due("a capability's address stored", Checks.wordAt(m, 268), 0x01020304);
        Checks.due("17", Checks.exception(m, 17, 2, 2, 4), NONE);
        Checks.number("a byte into b itself", m, 2, 4);
    }

    private static void capabilitiesInMemory() {
        CapMachine m = new CapMachine();
        m.grant(2, 256, 272, 264, 27);
        m.grant(3, 5, 512, 0x80000001, 0x93);
        Checks.seal(m, 3, 14);
        Checks.due("22", Checks.exception(m, 22, 3, 2, 0), NONE);
        Checks.due("its address", Checks.wordAt(m, 264), 0x80000001);
        Checks.due("its other word", Checks.wordAt(m, 268), 5 + 1024 * 512 + 1048576 * 14 + 16777216 * 0x93);
        Checks.due("its tag", m.tagged(33), true);
        Checks.due("not the tag before", m.tagged(32), false);
        Checks.due("not the tag behind", m.tagged(34), false);
        Checks.due("19", Checks.exception(m, 19, 4, 2, 0), NONE);
        Checks.capability("loaded", m, 4, 1, 5, 512, 0x93, 14, 0x80000001);
        Checks.due("29", Checks.exception(m, 29, 4, 4, 0), NONE);
        Checks.due("22", Checks.exception(m, 22, 4, 2, -8), NONE);
        Checks.due("without tag", m.tagged(32), false);
        Checks.due("but its words", Checks.wordAt(m, 260), Checks.wordAt(m, 268));
        Checks.due("22", Checks.exception(m, 22, 4, 2, 0), NONE);
        Checks.due("the tag is taken", m.tagged(33), false);
        Checks.due("22 of itself", Checks.exception(m, 22, 2, 2, 0), NONE);
        Checks.due("19 into itself", Checks.exception(m, 19, 2, 2, 0), NONE);
        Checks.capability("19 into itself", m, 2, 1, 256, 272, 27, 0, 264);
    }

    private static void untaggedPlaces() {
        CapMachine m = new CapMachine();
        m.grant(2, 256, 272, 264, 27);
        m.poke(264, -2, 4);
        m.poke(268, -1, 4);
        Checks.due("19", Checks.exception(m, 19, 4, 2, 0), NONE);
        Checks.capability("all ones", m, 4, 0, 1023, 1023, 255, 15, -2);
        Checks.due("22", Checks.exception(m, 22, 4, 2, -8), NONE);
        Checks.due("all ones stored", Checks.wordAt(m, 260), -1);
        m.poke(268, 900 + 1024 * 3 + 1048576 * 6 + 16777216 * 5, 4);
        Checks.due("19", Checks.exception(m, 19, 4, 2, 0), NONE);
        Checks.capability("base above top", m, 4, 0, 900, 3, 5, 6, -2);
        Checks.due("a load by it", Checks.exception(m, 17, 5, 4, 0), TAG);
    }

    private static void storesTakeTags() {
        for (int code = 20; code <= 22; code++) {
            CapMachine m = new CapMachine();
            for (int at = 248; at <= 264; at += 8) {
                m.grant(2, 0, 512, at, 31);
                Checks.due("22", Checks.exception(m, 22, 1, 2, 0), NONE);
            }
            m.grant(2, 0, 512, 256, 31);
            Checks.due("code " + code, Checks.exception(m, code, 0, 2, code == 20 ? 7 : code == 21 ? 4 : 0), NONE);
            Checks.due("tag before, code " + code, m.tagged(31), true);
            Checks.due("tag, code " + code, m.tagged(32), false);
            Checks.due("tag behind, code " + code, m.tagged(33), true);
        }
        CapMachine m = new CapMachine();
        m.grant(2, 0, 512, 256, 31);
        Checks.due("22", Checks.exception(m, 22, 1, 2, 0), NONE);
        for (int code = 17; code <= 19; code++) {
            Checks.due("code " + code, Checks.exception(m, code, 3, 2, 0), NONE);
            Checks.due("a load leaves the tag", m.tagged(32), true);
        }
    }

    private static void accessPermissions() {
        int[] needed = {1, 1, 9, 2, 2, 18};
        for (int code = 17; code <= 22; code++) {
            for (int permissions = 0; permissions < 256; permissions++) {
                CapMachine m = new CapMachine();
                m.grant(2, 256, 272, 264, permissions);
                m.grant(3, 0, 8, 0, 0);
                int need = needed[code - 17];
                int due = (permissions & need) == need ? NONE : PERMISSION;
                Checks.due("code " + code + " with " + permissions, Checks.exception(m, code, 3, 2, 0), due);
                if (code == 22) {
                    due = (permissions & 2) == 2 ? NONE : PERMISSION;
                    Checks.due("a number with " + permissions, Checks.exception(m, code, 0, 2, 0), due);
                }
            }
        }
    }

    private static void accessOrder() {
        for (int code = 17; code <= 22; code++) {
            CapMachine m = new CapMachine();
            m.grant(2, 256, 272, 999, 0);
            Checks.due("PERMISSION before BOUNDS, " + code, Checks.exception(m, code, 1, 2, 1), PERMISSION);
            Checks.seal(m, 2, 4);
            Checks.due("SEALED before PERMISSION, " + code, Checks.exception(m, code, 1, 2, 1), SEALED);
            Checks.due("tag off", Checks.exception(m, 29, 2, 2, 0), NONE);
            Checks.due("TAG before SEALED, " + code, Checks.exception(m, code, 1, 2, 1), TAG);
            m.grant(2, 256, 272, 264, 255);
            Checks.seal(m, 2, 1);
            Checks.due("an entry is sealed, " + code, Checks.exception(m, code, 1, 2, 0), SEALED);
        }
    }

    private static void accessEdges() {
        int[] sizes = {1, 4, 8, 1, 4, 8};
        for (int code = 17; code <= 22; code++) {
            int n = sizes[code - 17];
            for (int at = 240; at <= 290; at++) {
                CapMachine m = new CapMachine();
                m.grant(2, 254, 275, 256, 255);
                int due = at < 254 || at + n > 275 ? BOUNDS : at % n != 0 ? ALIGNMENT : NONE;
                Checks.due("code " + code + " at " + at, Checks.exception(m, code, 1, 2, at - 256), due);
            }
            int[][] far = {{Integer.MAX_VALUE, 127}, {Integer.MAX_VALUE, 0}, {Integer.MIN_VALUE, -128},
                {-1, 0}, {512, 0}, {513 - n, 0}, {Integer.MIN_VALUE, 0}};
            for (int[] row : far) {
                CapMachine m = new CapMachine();
                m.grant(2, 0, 512, row[0], 255);
                Checks.due("code " + code + " at " + row[0], Checks.exception(m, code, 1, 2, row[1]), BOUNDS);
            }
            CapMachine m = new CapMachine();
            m.grant(2, 0, 512, 512, 255);
            Checks.due("the last bytes, code " + code, Checks.exception(m, code, 1, 2, -n), NONE);
            m.grant(2, 0, 512, -n, 255);
            Checks.due("the first bytes, code " + code, Checks.exception(m, code, 1, 2, n), NONE);
        }
    }

    private static void parts() {
        CapMachine m = new CapMachine();
        m.grant(2, 11, 222, -77, 131);
        Checks.seal(m, 2, 13);
        int[] due = {1, 11, 222, 131, 13, -77};
        for (int i = 0; i < 6; i++) {
            Checks.due("part", Checks.exception(m, 23 + i, 3, 2, 0), NONE);
            Checks.number("part " + i, m, 3, due[i]);
        }
        Checks.due("29", Checks.exception(m, 29, 2, 2, 0), NONE);
        Checks.due("23", Checks.exception(m, 23, 2, 2, 0), NONE);
        Checks.number("no tag", m, 2, 0);
    }

    private static void clearingTheTag() {
        CapMachine m = new CapMachine();
        m.grant(2, 11, 222, 5000, 131);
        Checks.seal(m, 2, 13);
        Checks.due("29", Checks.exception(m, 29, 3, 2, 0), NONE);
        Checks.capability("29", m, 3, 0, 11, 222, 131, 13, 5000);
        Checks.capability("b stays", m, 2, 1, 11, 222, 131, 13, 5000);
    }

    private static void within() {
        int[][] rows = {
            // b's base, top, permissions, and whether within 100, 200, 7
            {100, 200, 7, 1}, {101, 199, 5, 1}, {100, 100, 0, 1}, {99, 200, 7, 0}, {100, 201, 7, 0}, {100, 200, 8, 0},
            {100, 200, 15, 0}, {200, 200, 7, 1}, {201, 201, 7, 0}, {0, 0, 0, 0},
        };
        for (int[] row : rows) {
            CapMachine m = new CapMachine();
            m.grant(2, row[0], row[1], 5, row[2]);
            m.grant(3, 100, 200, 900, 7);
            Checks.due("30", Checks.exception(m, 30, 4, 2, 3), NONE);
            Checks.number("30", m, 4, row[3]);
            Checks.due("29", Checks.exception(m, 29, 2, 2, 0), NONE);
            Checks.due("30", Checks.exception(m, 30, 4, 2, 3), NONE);
            Checks.number("30, b without tag", m, 4, 0);
            Checks.due("29", Checks.exception(m, 29, 3, 3, 0), NONE);
            Checks.due("30", Checks.exception(m, 30, 4, 2, 3), NONE);
            Checks.number("30, both without tag", m, 4, row[3]);
            m.grant(2, row[0], row[1], 5, row[2]);
            Checks.due("30", Checks.exception(m, 30, 4, 2, 3), NONE);
            Checks.number("30, c without tag", m, 4, 0);
        }
        CapMachine m = new CapMachine();
        m.grant(2, 0, 8, 0, 4);
        Checks.seal(m, 2, 5);
        Checks.due("30", Checks.exception(m, 30, 4, 2, 1), NONE);
        Checks.number("30 does not look at seals", m, 4, 1);
    }

    private static void relativeToPc() {
        int[][] rows = {{0, 1}, {1, 1}, {127, 0}, {-26, 1}, {-27, 0}, {-128, 0}, {25, 1}, {26, 0}};
        for (int[] row : rows) {
            CapMachine m = new CapMachine();
            m.poke(140, Checks.op(31, 2, 0, row[0]), 4);
            m.grant(8, 100, 180, 140, 5);
            Checks.due("31", m.run(1), 1);
            Checks.capability("31 by " + row[0], m, 2, row[1], 100, 180, 5, 0, 140 + 4 * row[0]);
            Checks.capability("PC goes on", m, 8, 1, 100, 180, 5, 0, 144);
        }
    }

    private static void handler() {
        CapMachine m = new CapMachine();
        m.grant(2, 64, 80, 900, 4);
        Checks.due("32", Checks.exception(m, 32, 2, 0, 0), NONE);
        Checks.capability("HANDLER", m, 9, 1, 64, 80, 4, 0, 900);
        Checks.due("PC goes on", m.look(8, 5), 4);
        Checks.seal(m, 2, 1);
        Checks.due("32 of an entry", Checks.exception(m, 32, 2, 0, 0), NONE);
        Checks.capability("HANDLER stays", m, 9, 1, 64, 80, 4, 0, 900);
        m.grant(2, 0, 8, 0, 251);
        Checks.due("32 without EXECUTE", Checks.exception(m, 32, 2, 0, 0), NONE);
        Checks.capability("HANDLER stays", m, 9, 1, 64, 80, 4, 0, 900);
        m.grant(2, 0, 8, 0, 255);
        Checks.due("29", Checks.exception(m, 29, 2, 2, 0), NONE);
        Checks.due("32 without tag", Checks.exception(m, 32, 2, 0, 0), NONE);
        Checks.capability("HANDLER stays", m, 9, 1, 64, 80, 4, 0, 900);
        Checks.due("PC goes on", m.look(8, 5), 4);
        Checks.due("no cause", m.cause(), 0);
        Checks.due("32 of PC's like", Checks.exception(m, 32, 1, 0, 0), NONE);
        Checks.capability("HANDLER is another", m, 9, 1, 0, 512, 255, 0, 0);
    }

    private static void illegalCodes() {
        for (int code = 0; code < 256; code++) {
            CapMachine m = new CapMachine();
            int got = Checks.exception(m, code, 1, 1, 1);
            Checks.due("code " + code + " is illegal", got == ILLEGAL, code > 32);
        }
    }

    private static void oneRegisterTwice() {
        CapMachine m = new CapMachine();
        m.grant(2, 0, 300, 20, 255);
        m.grant(3, 0, 8, 100, 255);
        Checks.due("8 into c", Checks.exception(m, 8, 3, 2, 3), NONE);
        Checks.capability("8 into c", m, 3, 1, 0, 300, 255, 0, 100);
        m.grant(3, 0, 8, 50, 255);
        Checks.due("10 into c", Checks.exception(m, 10, 3, 2, 3), NONE);
        Checks.capability("10 into c", m, 3, 1, 20, 70, 255, 0, 20);
        m.grant(3, 0, 8, 6, 255);
        Checks.due("12 into c", Checks.exception(m, 12, 3, 2, 3), NONE);
        Checks.capability("12 into c", m, 3, 1, 0, 300, 6, 0, 20);
        m.grant(3, 0, 8, 6, 255);
        Checks.due("13 into c", Checks.exception(m, 13, 3, 2, 3), NONE);
        Checks.capability("13 into c", m, 3, 1, 0, 300, 255, 6, 20);
        m.grant(4, 0, 8, 6, 64);
        Checks.due("14 into c", Checks.exception(m, 14, 4, 3, 4), NONE);
        Checks.capability("14 into c", m, 4, 1, 0, 300, 255, 0, 20);
        m.grant(4, 0, 8, 6, 32);
        Checks.due("13 of one with itself", Checks.exception(m, 13, 4, 4, 4), NONE);
        Checks.capability("13 of one with itself", m, 4, 1, 0, 8, 32, 6, 6);
    }

    private static void exceptionsChangeNothing() {
        CapMachine m = new CapMachine();
        m.grant(2, 1, 9, 4, 0);
        Checks.seal(m, 2, 1 + 7);
        m.grant(9, 64, 128, 64, 4);
        for (int code = 8; code <= 22; code++) {
            m.poke(0, Checks.op(code, 2, 2, 2), 4);
            m.grant(8, 0, 512, 0, 255);
            Checks.due("a step", m.run(7), 1);
            Checks.due("code " + code + " is SEALED", m.cause(), SEALED);
            Checks.capability("code " + code, m, 2, 1, 1, 9, 0, 8, 4);
            Checks.capability("FAULT of code " + code, m, 10, 1, 0, 512, 255, 0, 0);
            Checks.capability("PC of code " + code, m, 8, 1, 64, 128, 4, 0, 64);
        }
    }
}
