/** 'Terms', AN INSTRUCTION: its bytes, the step, and the codes that need no allowance of memory. */
public final class InstructionTermsTest extends Sentences {
    private static final int[] IMMS = {0, 1, 2, 126, 127, 128, 129, 254, 255};

    public static void main(String[] args) {
        immediates();
        fourBytes();
        steps();
        stepsAllowed();
        stepsMovePc();
        stepsSeeStores();
        halt();
        numbers();
        sums();
        comparisons();
        branchTargets();
        branchesOnOneRegister();
        move();
        withAddressSealed();
        withAddressOfC();
        lengths();
        boundsAskedFor();
        boundsMade();
        boundsOrder();
        keptPermissions();
        sealOrder();
        sealBounds();
        unsealOrder();
        unsealBounds();
        entryOrder();
        jump();
        jumpOrder();
        parts();
        withoutTag();
        within();
        relativeToPc();
        handler();
        illegal();
        whatAWas();
        copiesAreApart();
        Checks.end();
    }

    private static int signed(int c) {
        return c < 128 ? c : c - 256;
    }

    private static void immediates() {
        sentence("IMM is c as a byte -128 .. 127");
        for (int c : IMMS) {
            int imm = signed(c);
            scene().number(2, 1000).next(9, 4, 2, c).step("9 by " + c).number(4, 1000 + imm).check();
            Scene byteLoad = scene().grant(2, 0, 512, 300, 1).poke(300 + imm, 0xFE, 1).next(17, 4, 2, c);
            byteLoad.step("17 at " + c).number(4, 0xFE).check();
            Scene byteStore = scene().grant(2, 0, 512, 300, 2).address(3, 0xFE).next(20, 3, 2, c);
            byteStore.step("20 at " + c).bytes(300 + imm, 0xFE).check();
            Scene relative = scene().poke(256, Checks.op(31, 4, 0, c), 4).grant(8, 0, 512, 256, 5);
            int to = 256 + 4 * imm;
            relative.step("31 by " + c).register(4, to < -64 || to >= 576 ? 0 : 1, 0, 512, 5, 0, to).check();
        }
        for (int code : new int[] {18, 19, 21, 22}) {
            for (int imm : new int[] {-128, -8, 0, 8, 120}) {
                Scene scene = scene().grant(2, 0, 512, 384, 255).number(4, 0x01020304).poke(384 + imm, 0x05060708, 4);
                Outcome due = scene.next(code, 4, 2, imm & 255).step(code + " at " + imm);
                if (code <= 19) {
                    due.number(4, 0x05060708).check();
                } else {
                    due.word(384 + imm, 0x01020304).check();
                }
            }
        }
    }

    private static void fourBytes() {
        sentence("AN INSTRUCTION is four bytes: a code, a, b, c.");
        for (int at : new int[] {0, 4, 124, 504, 508}) {
            Scene scene = scene().grant(5, 1, 2, 3, 4);
            scene.poke(at, NUMBER, 1).poke(at + 1, 5, 1).poke(at + 2, 0x12, 1).poke(at + 3, 0x34, 1);
            Outcome due = scene.grant(8, 0, 512, at, 4).step("an instruction at " + at);
            due.number(5, 0x1234).check();
        }
    }

    private static void steps() {
        sentence("A step: PC must be allowed to EXECUTE four bytes at its address (below).");
        int[][] rows = {
            // base, top, address
            {0, 512, 0}, {0, 512, 4}, {0, 512, 504}, {0, 512, 508}, {0, 4, 0}, {508, 512, 508}, {256, 260, 256},
            {253, 260, 256}, {256, 263, 256}, {3, 511, 4}, {3, 511, 504},
        };
        for (int[] row : rows) {
            String what = "PC " + row[0] + ", " + row[1] + " at " + row[2];
            Scene scene = scene().poke(row[2], Checks.op(NUMBER, 4, 1, 2), 4).grant(8, row[0], row[1], row[2], 4);
            scene.step(what).number(4, 258).check();
        }
    }

    private static void stepsAllowed() {
        sentence("A step: PC must be allowed to EXECUTE four bytes at its address (below).");
        int[][] rows = {
            // base, top, address, permissions, exception
            {256, 512, 255, 4, BOUNDS}, {256, 512, 252, 4, BOUNDS}, {257, 512, 256, 4, BOUNDS}, {0, 259, 256, 4, BOUNDS},
            {0, 256, 256, 4, BOUNDS}, {0, 512, 509, 4, BOUNDS}, {0, 512, 510, 4, BOUNDS}, {0, 512, 511, 4, BOUNDS},
            {0, 512, 512, 4, BOUNDS}, {0, 512, 516, 4, BOUNDS}, {0, 512, -1, 4, BOUNDS}, {0, 512, -4, 4, BOUNDS},
            {0, 512, MAX, 4, BOUNDS}, {0, 512, MAX - 3, 4, BOUNDS}, {0, 512, MIN, 4, BOUNDS}, {0, 0, 0, 4, BOUNDS},
            {512, 512, 512, 4, BOUNDS}, {0, 512, 1, 4, ALIGNMENT}, {0, 512, 2, 4, ALIGNMENT}, {0, 512, 3, 4, ALIGNMENT},
            {0, 512, 255, 4, ALIGNMENT}, {0, 512, 257, 4, ALIGNMENT}, {0, 512, 505, 4, ALIGNMENT},
            {0, 512, 507, 4, ALIGNMENT}, {0, 261, 257, 4, ALIGNMENT}, {0, 260, 257, 4, BOUNDS}, {254, 512, 254, 4, ALIGNMENT},
            {0, 512, 256, 0, PERMISSION}, {0, 512, 256, 251, PERMISSION}, {0, 512, 513, 251, PERMISSION},
            {0, 512, 257, 251, PERMISSION},
        };
        for (int[] row : rows) {
            String what = "PC " + row[0] + ", " + row[1] + " at " + row[2];
            scene().grant(8, row[0], row[1], row[2], row[3]).raises(what, row[4]);
        }
    }

    private static void stepsMovePc() {
        sentence("Then what the code says; then PC's address is 4 more, but for jumps and branches that are taken.");
        for (int code = 1; code <= 32; code++) {
            if (code != JUMP) {
                Scene scene = scene().grant(2, 0, 512, 256, 255).grant(3, 0, 512, 8, 255).grant(4, 0, 512, 256, 255);
                if (code == UNSEAL) {
                    scene.sealed(2, 8);
                }
                int a = code == LESS || code == UNLIKE ? 2 : code == EQUAL ? 3 : 4;
                int c = code >= 17 && code <= 22 ? 8 : 3;
                scene.poke(128, Checks.op(code, a, 2, c), 4).grant(8, 120, 132, 128, 4);
                CapMachine m = scene.make();
                Checks.due("code " + code + ": run(1)", m.run(1), 1);
                Checks.capability("PC behind code " + code, m, 8, 1, 120, 132, 4, 0, 132);
                Checks.due("code " + code + ": cause()", m.cause(), 0);
            }
        }
    }

    private static void stepsSeeStores() {
        sentence("AN INSTRUCTION is four bytes (those that memory holds when its step is done)");
        Scene scene = scene().poke(128, Checks.op(21, 2, 1, 8), 4).poke(132, Checks.op(NUMBER, 5, 0, 1), 4);
        scene.number(2, Checks.op(NUMBER, 5, 0, 2)).grant(1, 0, 512, 124, 2).grant(8, 0, 512, 128, 4);
        Outcome due = scene.after("a store before it", m -> Checks.due("run(2)", m.run(2), 2));
        due.word(132, Checks.op(NUMBER, 5, 0, 2)).number(5, 2).movesPc(8).check();
    }

    private static void halt() {
        sentence("0 HALT: the machine halts (PC stays).");
        for (int rest : new int[] {0, 1, 255}) {
            Scene scene = scene().next(HALT, rest, rest, rest);
            Outcome due = scene.after("HALT", m -> Checks.due("run(9)", m.run(9), 1));
            due.state(1).check();
            Scene halted = scene.copy().call(m -> m.run(1));
            halted.changesNothing("run when halted", m -> Checks.due("run(9)", m.run(9), 0));
        }
    }

    private static void numbers() {
        sentence("1: register a is the NUMBER 256 * b + c.");
        int[][] rows = {
            // b, c, number
            {0, 0, 0}, {0, 1, 1}, {0, 127, 127}, {0, 128, 128}, {0, 255, 255}, {1, 0, 256}, {127, 255, 32767},
            {128, 0, 32768}, {255, 0, 65280}, {255, 255, 65535}, {8, 9, 2057},
        };
        for (int[] row : rows) {
            Scene scene = scene().grant(4, 1, 2, 3, 4).next(NUMBER, 4, row[0], row[1]);
            scene.step("1 of " + row[0] + ", " + row[1]).number(4, row[2]).check();
        }
    }

    private static void sums() {
        sentence("2 ADD, 3 TAKE: a is the NUMBER of the addresses of b and c, their sum or difference.");
        int[][] rows = {
            // b, c, sum, difference
            {0, 0, 0, 0}, {5, 7, 12, -2}, {7, 5, 12, 2}, {-1, 1, 0, -2}, {MAX, 0, MAX, MAX}, {MAX, 1, MIN, MAX - 1},
            {MAX, MAX, -2, 0}, {MIN, 1, MIN + 1, MAX}, {MIN, -1, MAX, MIN + 1}, {MIN, MIN, 0, 0}, {0, MIN, MIN, MIN},
            {MAX, -1, MAX - 1, MIN}, {-1, MAX, MAX - 1, MIN}, {-2, MAX, MAX - 2, MAX},
        };
        for (int[] row : rows) {
            Scene scene = scene().grant(2, 1, 2, row[0], 3).number(3, row[1]).grant(4, 1, 2, 3, 4);
            String what = " of " + row[0] + ", " + row[1];
            scene.copy().next(ADD, 4, 2, 3).step("2" + what).number(4, row[2]).check();
            scene.copy().next(TAKE, 4, 2, 3).step("3" + what).number(4, row[3]).check();
            scene.copy().next(ADD, 3, 2, 3).step("2 into c" + what).number(3, row[2]).check();
            scene.copy().next(TAKE, 2, 2, 3).step("3 into b" + what).number(2, row[3]).check();
        }
    }

    private static void comparisons() {
        sentence("4 EQUAL, 5 LESS, 6 UNLIKE: if the addresses of a and b are so (signed)");
        int[][] rows = {
            {5, 5}, {5, 6}, {6, 5}, {0, 0}, {-1, 0}, {0, -1}, {-1, -1}, {-2, -1}, {-1, -2}, {MIN, MAX}, {MAX, MIN},
            {MIN, MIN}, {MAX, MAX}, {MIN, MIN + 1}, {MIN + 1, MIN}, {MAX - 1, MAX}, {MAX, MAX - 1}, {MIN, 0}, {0, MIN},
            {MAX, 0}, {0, MAX}, {MAX, -1}, {-1, MAX}, {255, 511}, {256, 0},
        };
        for (int[] row : rows) {
            boolean[] so = {row[0] == row[1], row[0] < row[1], row[0] != row[1]};
            for (int code = EQUAL; code <= UNLIKE; code++) {
                int more = so[code - EQUAL] ? 4 * 3 : 0;
                Scene scene = scene().grant(2, 1, 2, row[0], 3).number(3, row[1]).next(code, 2, 3, 3);
                scene.step(code + " of " + row[0] + ", " + row[1]).movesPc(more).check();
            }
        }
    }

    private static void branchTargets() {
        sentence("PC's address is 4 + 4 * IMM more");
        int[][] rows = {
            // at, c, PC's address
            {256, 0, 260}, {256, 1, 264}, {256, 255, 256}, {256, 254, 252}, {256, 63, 512}, {256, 191, 0}, {0, 127, 512},
            {508, 128, 0}, {0, 0, 4}, {508, 0, 512}, {0, 239, -64}, {508, 15, 572},
        };
        for (int[] row : rows) {
            for (int code = EQUAL; code <= UNLIKE; code++) {
                Scene scene = scene().address(2, code == EQUAL ? 1 : 0).address(3, 1);
                Outcome due = scene.nextAt(row[0], code, 2, 3, row[1]).step(code + " at " + row[0] + " by " + row[1]);
                due.register(8, 1, 0, 512, 255, 0, row[2]).check();
            }
        }
    }

    private static void branchesOnOneRegister() {
        sentence("4 EQUAL, 5 LESS, 6 UNLIKE: if the addresses of a and b are so (signed)");
        scene().address(2, 9).next(EQUAL, 2, 2, 5).step("a register is equal to itself").movesPc(20).check();
        scene().address(2, 9).next(LESS, 2, 2, 5).step("and not less").check();
        scene().address(2, 9).next(UNLIKE, 2, 2, 5).step("and not unlike").check();
        Scene kinds = scene().grant(2, 0, 512, 9, 255).sealed(2, 5).number(3, 9).next(EQUAL, 2, 3, 5);
        kinds.step("only addresses are compared").movesPc(20).check();
    }

    private static void move() {
        sentence("7 MOVE: a is what b is.");
        int[][] rows = {
            // base, top, address, permissions, type
            {0, 0, 0, 0, 0}, {0, 512, 0, 255, 15}, {3, 7, MAX, 4, 1}, {512, 512, MIN, 128, 2}, {100, 200, 36, 1, 0},
            {100, 200, 35, 1, 0},
        };
        for (int[] row : rows) {
            Scene scene = scene().grant(2, row[0], row[1], row[2], row[3]).sealed(2, row[4]);
            scene.copy().next(MOVE, 4, 2, 0).step("7").becomes(4, 2).check();
            scene.copy().next(MOVE, 2, 2, 0).step("7 of itself").check();
            scene.copy().untagged(2).next(MOVE, 4, 2, 0).step("7 without tag").becomes(4, 2).check();
        }
        scene().unpacked(2, -3, -1).next(MOVE, 4, 2, 0).step("7").register(4, 0, 1023, 1023, 255, 15, -3).check();
        scene().grant(4, 1, 2, 3, 4).next(MOVE, 4, 0, 0).step("7 of a number").number(4, 0).check();
    }

    private static void withAddressSealed() {
        sentence("Both: if b is valid and its type is above 0: SEALED.");
        for (int type : new int[] {0, 1, 2, 15}) {
            for (int code : new int[] {8, 9, 12}) {
                Scene scene = scene().grant(2, 100, 200, 150, 255).sealed(2, type).address(3, 170);
                int address = code == 8 ? 170 : code == 9 ? 153 : 150;
                int permissions = code == 12 ? 170 : 255;
                String what = code + " of type " + type;
                if (type == 0) {
                    Outcome due = scene.copy().next(code, 4, 2, 3).step(what);
                    due.register(4, 1, 100, 200, permissions, 0, address).check();
                } else {
                    scene.copy().next(code, 4, 2, 3).raises(what, SEALED);
                    scene.copy().next(code, 2, 2, 3).raises(what + " into itself", SEALED);
                }
                Outcome bare = scene.copy().untagged(2).next(code, 4, 2, 3).step(what + " without tag");
                bare.register(4, 0, 100, 200, permissions, type, address).check();
            }
        }
    }

    private static void withAddressOfC() {
        sentence("8: a is b with the address of c.   9: a is b with its address IMM more.");
        Scene sealed = scene().grant(2, 100, 200, 150, 3).grant(3, 0, 8, 160, 4).sealed(3, 5);
        sealed.copy().next(8, 4, 2, 3).step("c sealed").register(4, 1, 100, 200, 3, 0, 160).check();
        sealed.copy().untagged(3).next(8, 3, 2, 3).step("into c").register(3, 1, 100, 200, 3, 0, 160).check();
        int[][] rows = {{MAX, 1, MIN}, {MAX, 127, MIN + 126}, {MIN, 255, MAX}, {MIN, 128, MAX - 127}, {0, 255, -1}};
        for (int[] row : rows) {
            Scene number = scene().number(2, row[0]).next(9, 4, 2, row[1]);
            number.step("9 of " + row[0] + " by " + row[1]).number(4, row[2]).check();
        }
    }

    private static void lengths() {
        sentence("the length not below 0");
        int[][] rows = {{-1, 0}, {0, 1}, {1, 1}, {MIN, 0}, {MIN + 256, 0}, {-256, 0}, {-257, 0}, {MAX, 0}, {MAX - 255, 0}};
        for (int[] row : rows) {
            for (int code = 10; code <= 11; code++) {
                String what = code + " with length " + row[0];
                Scene scene = scene().grant(2, 0, 512, 256, 77).number(3, row[0]).next(code, 4, 2, 3);
                if (row[1] == 1) {
                    scene.step(what).register(4, 1, 256, 256 + row[0], 77, 0, 256).check();
                } else {
                    scene.raises(what, BOUNDS);
                }
            }
        }
    }

    private static void boundsAskedFor() {
        sentence("and the bounds asked for ... within b's, else BOUNDS");
        int[][] rows = {
            // b's base and top, address, length, whether within
            {100, 140, 100, 40, 1}, {100, 140, 100, 41, 0}, {100, 140, 100, 39, 1}, {100, 140, 99, 40, 0},
            {100, 140, 99, 41, 0}, {100, 140, 99, 0, 0}, {100, 140, 99, 1, 0}, {100, 140, 101, 39, 1},
            {100, 140, 101, 40, 0}, {100, 140, 140, 0, 1}, {100, 140, 140, 1, 0}, {100, 140, 141, 0, 0},
            {100, 140, 139, 1, 1}, {100, 140, 139, 2, 0}, {100, 100, 100, 0, 1}, {100, 100, 100, 1, 0},
            {0, 512, 0, 512, 1}, {0, 512, 0, 513, 0}, {0, 512, 512, 0, 1}, {0, 512, 512, 1, 0}, {0, 512, 513, 0, 0},
            {0, 512, -1, 1, 0}, {0, 512, -1, 0, 0}, {0, 512, -8, 16, 0}, {0, 512, MAX, 0, 0}, {0, 512, MAX, 1, 0},
            {0, 512, MAX, MAX, 0}, {0, 512, MIN, 0, 0}, {0, 512, MIN, MAX, 0}, {0, 512, 1, MAX, 0}, {0, 512, 0, MAX, 0},
        };
        for (int[] row : rows) {
            for (int code = 10; code <= 11; code++) {
                String what = code + " of " + row[0] + ", " + row[1] + " at " + row[2] + " for " + row[3];
                Scene scene = scene().grant(2, row[0], row[1], row[2], 77).address(3, row[3]).next(code, 4, 2, 3);
                if (row[4] == 1) {
                    scene.step(what).register(4, 1, row[2], row[2] + row[3], 77, 0, row[2]).check();
                } else {
                    scene.raises(what, BOUNDS);
                }
            }
        }
    }

    private static void boundsMade() {
        sentence("base is made less and top more until both are multiples of 8 ... "
            + "and those made of them, within b's, else BOUNDS; this comes before INEXACT");
        int[][] rows = {
            // b's base and top, address, length, base and top made (0, 0 when not within)
            {96, 200, 97, 70, 96, 168}, {97, 200, 97, 70, 0, 0}, {95, 200, 97, 70, 96, 168}, {97, 200, 103, 70, 0, 0},
            {97, 200, 104, 65, 104, 176}, {96, 168, 100, 67, 96, 168}, {96, 167, 100, 67, 0, 0}, {96, 169, 100, 67, 96, 168},
            {96, 167, 96, 71, 0, 0}, {96, 168, 96, 71, 96, 168}, {97, 167, 97, 70, 0, 0}, {0, 512, 1, 511, 0, 512},
            {0, 511, 0, 511, 0, 0}, {1, 512, 1, 511, 0, 0}, {0, 512, 0, 511, 0, 512}, {0, 512, 447, 65, 440, 512},
            {447, 512, 447, 65, 0, 0},
        };
        for (int[] row : rows) {
            String what = " of " + row[0] + ", " + row[1] + " at " + row[2] + " for " + row[3];
            Scene scene = scene().grant(2, row[0], row[1], row[2], 77).address(3, row[3]);
            if (row[5] == 0) {
                scene.copy().next(10, 4, 2, 3).raises("10" + what, BOUNDS);
                scene.copy().next(11, 4, 2, 3).raises("11" + what, BOUNDS);
            } else {
                Outcome due = scene.copy().next(10, 4, 2, 3).step("10" + what);
                due.register(4, 1, row[4], row[5], 77, 0, row[2]).check();
                scene.copy().next(11, 4, 2, 3).raises("11" + what, INEXACT);
            }
        }
    }

    private static void boundsOrder() {
        sentence("Both: b must be valid, else TAG; unsealed, else SEALED; the length not below 0 ... else BOUNDS");
        for (int code = 10; code <= 11; code++) {
            for (int type : new int[] {1, 2, 15}) {
                Scene wrong = scene().grant(2, 97, 200, 600, 255).sealed(2, type).address(3, -1);
                wrong.copy().next(code, 4, 2, 3).raises(code + ": SEALED before BOUNDS", SEALED);
                wrong.copy().untagged(2).next(code, 4, 2, 3).raises(code + ": TAG before SEALED", TAG);
                Scene inexact = scene().grant(2, 0, 512, 1, 255).sealed(2, type).address(3, 70);
                inexact.next(code, 4, 2, 3).raises(code + ": SEALED before INEXACT", SEALED);
            }
            scene().number(2, 0).address(3, 8).next(code, 4, 2, 3).raises(code + " of a number", TAG);
            Scene into = scene().grant(2, 0, 512, 16, 9).address(3, 8);
            into.copy().next(code, 2, 2, 3).step(code + " into b").register(2, 1, 16, 24, 9, 0, 16).check();
            into.copy().next(code, 3, 2, 3).step(code + " into c").register(3, 1, 16, 24, 9, 0, 16).check();
            into.copy().next(code, 4, 2, 2).step(code + " with b as c").register(4, 1, 16, 32, 9, 0, 16).check();
            Scene sealed = into.copy().sealed(3, 5).next(code, 4, 2, 3);
            sealed.step(code + ", c sealed").register(4, 1, 16, 24, 9, 0, 16).check();
        }
    }

    private static void keptPermissions() {
        sentence("12: a is b with those of its permissions that are bits of c's address.");
        int[][] rows = {
            // b's, c's address, a's
            {255, 255, 255}, {255, 0, 0}, {255, -1, 255}, {255, 256, 0}, {255, 257, 1}, {255, -256, 0}, {255, 128, 128},
            {255, MIN, 0}, {255, MAX, 255}, {0, -1, 0}, {1, 254, 0}, {1, 1, 1}, {170, 85, 0}, {170, 255, 170}, {204, 170, 136},
            {128, 127, 0}, {127, 128, 0},
        };
        for (int[] row : rows) {
            Scene scene = scene().grant(2, 100, 200, 90, row[0]).number(3, row[1]).next(12, 4, 2, 3);
            Outcome due = scene.step("12 of " + row[0] + " by " + row[1]);
            due.register(4, 1, 100, 200, row[2], 0, 90).check();
        }
    }

    private static void sealOrder() {
        sentence("13 SEAL: (b and c valid, else TAG; unsealed, else SEALED; c permits SEAL, else PERMISSION; "
            + "its address is within its bounds, else BOUNDS; and is 2 .. 15, else KIND.)");
        Scene both = scene().grant(2, 0, 8, 0, 255).sealed(2, 3).grant(3, 0, 8, 99, 0).sealed(3, 4);
        both.copy().untagged(2).untagged(3).next(SEAL, 4, 2, 3).raises("TAG of both before SEALED", TAG);
        both.copy().untagged(2).next(SEAL, 4, 2, 3).raises("TAG of b before SEALED", TAG);
        both.copy().untagged(3).next(SEAL, 4, 2, 3).raises("TAG of c before SEALED", TAG);
        both.copy().next(SEAL, 4, 2, 3).raises("SEALED of both", SEALED);
        Scene plain = scene().grant(2, 0, 8, 0, 223).grant(3, 0, 8, 99, 223);
        for (int type : new int[] {1, 2, 15}) {
            plain.copy().sealed(2, type).next(SEAL, 4, 2, 3).raises("SEALED of b before PERMISSION", SEALED);
            plain.copy().sealed(3, type).next(SEAL, 4, 2, 3).raises("SEALED of c before PERMISSION", SEALED);
        }
        plain.copy().next(SEAL, 4, 2, 3).raises("PERMISSION before BOUNDS", PERMISSION);
        plain.copy().grant(2, 0, 8, 0, 255).next(SEAL, 4, 2, 3).raises("b's SEAL is of no use", PERMISSION);
        plain.copy().grant(3, 0, 8, 99, 32).next(SEAL, 4, 2, 3).raises("BOUNDS before KIND", BOUNDS);
        plain.copy().grant(3, 0, 8, 1, 32).next(SEAL, 4, 2, 3).raises("KIND", KIND);
        plain.copy().grant(3, 0, 8, 1, 223).next(SEAL, 4, 2, 3).raises("PERMISSION before KIND", PERMISSION);
        Outcome due = plain.copy().grant(3, 0, 8, 2, 32).next(SEAL, 4, 2, 3).step("13");
        due.register(4, 1, 0, 8, 223, 2, 0).check();
        scene().grant(3, 0, 16, 5, 32).next(SEAL, 3, 3, 3).step("with itself").part(3, 4, 5).check();
    }

    private static void sealBounds() {
        sentence("13 SEAL: its address is within its bounds, else BOUNDS; and is 2 .. 15, else KIND");
        int[][] rows = {
            // c's base, top, address, exception or 0
            {5, 9, 4, BOUNDS}, {5, 9, 5, 0}, {5, 9, 6, 0}, {5, 9, 8, 0}, {5, 9, 9, BOUNDS}, {5, 9, 10, BOUNDS}, {5, 6, 5, 0},
            {5, 5, 5, BOUNDS}, {0, 512, -1, BOUNDS}, {0, 512, 0, KIND}, {0, 512, 1, KIND}, {0, 512, 2, 0}, {0, 512, 3, 0},
            {0, 512, 14, 0}, {0, 512, 15, 0}, {0, 512, 16, KIND}, {0, 512, 17, KIND}, {0, 512, 18, KIND}, {0, 512, 511, KIND},
            {0, 512, 512, BOUNDS}, {2, 16, 1, BOUNDS}, {2, 16, 2, 0}, {2, 16, 15, 0}, {2, 16, 16, BOUNDS}, {0, 512, MAX, BOUNDS},
            {0, 512, MIN, BOUNDS}, {0, 512, 258, KIND}, {0, 512, MIN + 5, BOUNDS},
        };
        for (int[] row : rows) {
            String what = "13 by " + row[0] + ", " + row[1] + " at " + row[2];
            Scene scene = scene().grant(2, 9, 11, 7, 131).grant(3, row[0], row[1], row[2], 32).next(SEAL, 4, 2, 3);
            if (row[3] == 0) {
                scene.step(what).register(4, 1, 9, 11, 131, row[2], 7).check();
            } else {
                scene.raises(what, row[3]);
            }
        }
    }

    private static void unsealOrder() {
        sentence("14 UNSEAL: (b and c valid, else TAG; b sealed with a type above 1 and c unsealed, else SEALED; the address "
            + "of c is b's type, else KIND; c permits UNSEAL, else PERMISSION; its address is within its bounds, else BOUNDS.)");
        for (int type : new int[] {0, 1}) {
            Scene open = scene().grant(2, 0, 8, 0, 191).sealed(2, type).grant(3, 0, 8, 99, 191);
            open.copy().next(UNSEAL, 4, 2, 3).raises("SEALED of b before KIND, type " + type, SEALED);
            open.copy().untagged(2).next(UNSEAL, 4, 2, 3).raises("TAG of b before SEALED, type " + type, TAG);
            open.copy().untagged(3).next(UNSEAL, 4, 2, 3).raises("TAG of c before SEALED, type " + type, TAG);
            Scene like = scene().grant(2, 0, 8, 0, 255).sealed(2, type).grant(3, 0, 8, type, 255);
            like.next(UNSEAL, 4, 2, 3).raises("SEALED of b, type " + type, SEALED);
        }
        for (int type : new int[] {1, 2, 15}) {
            Scene sealed = scene().grant(2, 0, 8, 0, 191).sealed(2, 9).grant(3, 0, 8, 99, 191).sealed(3, type);
            sealed.copy().next(UNSEAL, 4, 2, 3).raises("SEALED of c before KIND, type " + type, SEALED);
            sealed.copy().untagged(2).next(UNSEAL, 4, 2, 3).raises("TAG of b before SEALED of c", TAG);
            sealed.copy().untagged(3).next(UNSEAL, 4, 2, 3).raises("TAG of c before SEALED of c", TAG);
        }
        Scene nine = scene().grant(2, 0, 8, 0, 191).sealed(2, 9);
        nine.copy().grant(3, 0, 8, 8, 191).next(UNSEAL, 4, 2, 3).raises("KIND before PERMISSION", KIND);
        nine.copy().grant(3, 0, 8, 10, 255).next(UNSEAL, 4, 2, 3).raises("KIND before BOUNDS", KIND);
        nine.copy().grant(3, 0, 8, 9, 191).next(UNSEAL, 4, 2, 3).raises("PERMISSION before BOUNDS", PERMISSION);
        nine.copy().grant(3, 0, 8, 9, 64).next(UNSEAL, 4, 2, 3).raises("BOUNDS", BOUNDS);
        Outcome due = nine.copy().grant(3, 0, 16, 9, 64).next(UNSEAL, 4, 2, 3).step("14");
        due.register(4, 1, 0, 8, 191, 0, 0).check();
        scene().grant(2, 0, 16, 9, 255).sealed(2, 9).next(UNSEAL, 4, 2, 2).raises("14 by itself", SEALED);
    }

    private static void unsealBounds() {
        sentence("14 UNSEAL: the address of c is b's type, else KIND; its address is within its bounds, else BOUNDS");
        int[][] rows = {
            // b's type, c's base, top, address, exception or 0
            {2, 0, 16, 1, KIND}, {2, 0, 16, 2, 0}, {2, 0, 16, 3, KIND}, {15, 0, 16, 14, KIND}, {15, 0, 16, 15, 0},
            {15, 0, 16, 16, KIND}, {15, 0, 512, 16, KIND}, {9, 9, 10, 9, 0}, {9, 10, 11, 9, BOUNDS}, {9, 8, 9, 9, BOUNDS},
            {9, 9, 9, 9, BOUNDS}, {9, 9, 512, 9, 0}, {9, 0, 10, 9, 0}, {9, 0, 512, 25, KIND}, {9, 0, 512, 265, KIND},
            {9, 0, 512, -7, KIND}, {15, 15, 16, 15, 0}, {15, 0, 15, 15, BOUNDS}, {2, 2, 3, 2, 0}, {2, 3, 16, 2, BOUNDS},
        };
        for (int[] row : rows) {
            String what = "14 of type " + row[0] + " by " + row[1] + ", " + row[2] + " at " + row[3];
            Scene scene = scene().grant(2, 9, 11, 7, 131).sealed(2, row[0]).grant(3, row[1], row[2], row[3], 64);
            scene.next(UNSEAL, 4, 2, 3);
            if (row[4] == 0) {
                scene.step(what).register(4, 1, 9, 11, 131, 0, 7).check();
            } else {
                scene.raises(what, row[4]);
            }
        }
    }

    private static void entryOrder() {
        sentence("15: a is b as an ENTRY. (b valid, else TAG; unsealed, else SEALED; permits EXECUTE, else PERMISSION.)");
        for (int type : new int[] {1, 2, 15}) {
            Scene sealed = scene().grant(2, 8, 24, 9, type == 1 ? 255 : 251).sealed(2, type);
            sealed.copy().next(ENTRY, 4, 2, 0).raises("SEALED before PERMISSION, type " + type, SEALED);
            sealed.copy().untagged(2).next(ENTRY, 4, 2, 0).raises("TAG before SEALED, type " + type, TAG);
        }
        scene().grant(2, 8, 24, 9, 251).next(ENTRY, 4, 2, 0).raises("PERMISSION", PERMISSION);
        scene().grant(2, 8, 24, 9, 251).untagged(2).next(ENTRY, 4, 2, 0).raises("TAG before PERMISSION", TAG);
        Scene good = scene().grant(2, 8, 24, 9, 4);
        good.copy().next(ENTRY, 4, 2, 0).step("15").register(4, 1, 8, 24, 4, 1, 9).check();
        good.copy().next(ENTRY, 2, 2, 0).step("15 into itself").part(2, 4, 1).check();
    }

    private static void jump() {
        sentence("16 JUMP: PC becomes b, unsealed; and a an ENTRY of PC with its address 4 more.");
        for (int type = 0; type <= 1; type++) {
            for (int at : new int[] {200, 204, 208}) {
                Scene scene = scene().grant(3, 301, 411, 402, 6).sealed(3, type);
                scene.poke(at, Checks.op(JUMP, 2, 3, 0), 4).grant(8, 200, 212, at, 13);
                Outcome due = scene.step("16 at " + at + " to type " + type);
                due.register(2, 1, 200, 212, 13, 1, at + 4).register(8, 1, 301, 411, 6, 0, 402).check();
                Scene same = scene().grant(3, 301, 411, 402, 6).sealed(3, type);
                same.poke(at, Checks.op(JUMP, 3, 3, 0), 4).grant(8, 200, 212, at, 13);
                Outcome link = same.step("16 with a as b at " + at + " to type " + type);
                link.register(3, 1, 200, 212, 13, 1, at + 4).register(8, 1, 301, 411, 6, 0, 402).check();
            }
        }
    }

    private static void jumpOrder() {
        sentence("16 JUMP: (b valid, else TAG; unsealed or an ENTRY, else SEALED; permits EXECUTE, else PERMISSION.)");
        for (int type : new int[] {2, 3, 15}) {
            Scene sealed = scene().grant(2, 0, 512, 8, 251).sealed(2, type);
            sealed.copy().next(JUMP, 4, 2, 0).raises("SEALED before PERMISSION, type " + type, SEALED);
            sealed.copy().untagged(2).next(JUMP, 4, 2, 0).raises("TAG before SEALED, type " + type, TAG);
        }
        scene().grant(2, 0, 512, 8, 251).next(JUMP, 4, 2, 0).raises("PERMISSION", PERMISSION);
        scene().grant(2, 0, 512, 8, 251).next(JUMP, 2, 2, 0).raises("PERMISSION, a as b", PERMISSION);
        scene().grant(2, 0, 512, 8, 251).untagged(2).next(JUMP, 4, 2, 0).raises("TAG before PERMISSION", TAG);
        scene().grant(2, 0, 512, 8, 255).sealed(2, 1).next(JUMP, 4, 2, 0).step("an entry")
            .register(4, 1, 0, 512, 255, 1, 132).register(8, 1, 0, 512, 255, 0, 8).check();
        scene().unpacked(2, 8, packed(0, 512, 1, 251)).next(JUMP, 4, 2, 0).raises("an entry without tag", TAG);
    }

    private static void parts() {
        sentence("23 to 28: a is the NUMBER of b's tag (1 or 0), base, top, permissions, type, address.");
        int[][] rows = {
            // tag, base, top, permissions, type, address
            {1, 0, 0, 0, 0, 0}, {1, 0, 512, 255, 15, MAX}, {1, 512, 512, 4, 1, MIN}, {0, 0, 512, 255, 15, -1},
            {0, 512, 512, 128, 2, 1}, {1, 11, 222, 131, 13, -77}, {0, 1, 2, 3, 0, 4},
        };
        for (int[] row : rows) {
            Scene scene = scene().grant(2, row[1], row[2], row[5], row[3]).sealed(2, row[4]);
            if (row[0] == 0) {
                scene.untagged(2);
            }
            for (int i = 0; i < 6; i++) {
                scene.copy().next(23 + i, 4, 2, 0).step(23 + i + " of a part").number(4, row[i]).check();
                scene.copy().next(23 + i, 2, 2, 0).step(23 + i + " into b").number(2, row[i]).check();
            }
        }
    }

    private static void withoutTag() {
        sentence("29: a is b without tag.");
        for (int type : new int[] {0, 1, 2, 15}) {
            Scene scene = scene().grant(2, 11, 222, 150, 135).sealed(2, type);
            Outcome due = scene.copy().next(29, 4, 2, 0).step("29 of type " + type);
            due.register(4, 0, 11, 222, 135, type, 150).check();
            scene.copy().next(29, 2, 2, 0).step("29 of itself").part(2, 0, 0).check();
            scene.copy().untagged(2).next(29, 4, 2, 0).step("29 without tag").becomes(4, 2).check();
        }
    }

    private static void within() {
        sentence("30: a is the NUMBER 1 if b and c are both valid or both not, and b's bounds and permissions are within "
            + "c's, else 0.");
        int[][] rows = {
            // b's base, top, permissions, and whether within 100, 200, 44
            {100, 200, 44, 1}, {99, 200, 44, 0}, {101, 200, 44, 1}, {100, 199, 44, 1}, {100, 201, 44, 0}, {100, 100, 44, 1},
            {99, 99, 44, 0}, {200, 200, 44, 1}, {201, 201, 44, 0}, {100, 200, 0, 1}, {100, 200, 4, 1}, {100, 200, 45, 0},
            {100, 200, 1, 0}, {100, 200, 128, 0}, {100, 200, 255, 0}, {100, 200, 12, 1}, {100, 200, 60, 0}, {0, 512, 44, 0},
        };
        for (int[] row : rows) {
            for (int tags = 0; tags < 4; tags++) {
                Scene scene = scene().grant(2, row[0], row[1], 5, row[2]).grant(3, 100, 200, 900, 44);
                if ((tags & 1) == 0) {
                    scene.untagged(2);
                }
                if ((tags & 2) == 0) {
                    scene.untagged(3);
                }
                int due = tags == 0 || tags == 3 ? row[3] : 0;
                String what = "30 of " + row[0] + ", " + row[1] + ", " + row[2] + " with tags " + tags;
                scene.next(30, 4, 2, 3).step(what).number(4, due).check();
            }
        }
        for (int type : new int[] {1, 2, 15}) {
            Scene scene = scene().grant(2, 100, 200, 5, 44).sealed(2, type).grant(3, 100, 200, 900, 44);
            scene.copy().next(30, 4, 2, 3).step("30, b sealed").number(4, 1).check();
            scene.copy().next(30, 4, 3, 2).step("30, c sealed").number(4, 1).check();
            scene.copy().next(30, 2, 2, 2).step("30 of itself").number(2, 1).check();
        }
        Scene numbers = scene().number(2, 5).number(3, -5).next(30, 4, 2, 3);
        numbers.step("30 of two numbers").number(4, 1).check();
        Scene beyond = scene().unpacked(2, 0, packed(513, 1023, 0, 1)).unpacked(3, 0, packed(512, 1022, 0, 1));
        beyond.copy().next(30, 4, 2, 3).step("30 of bounds above 512").number(4, 0).check();
        beyond.copy().unpacked(3, 0, packed(512, 1023, 0, 1)).next(30, 4, 2, 3).step("30 above 512").number(4, 1).check();
    }

    private static void relativeToPc() {
        sentence("31: a is PC with its address 4 * IMM more.");
        for (int c : new int[] {0, 1, 255, 27, 228}) {
            Scene scene = scene().grant(4, 1, 2, 3, 255).sealed(4, 6);
            scene.poke(252, Checks.op(31, 4, 0, c), 4).grant(8, 201, 299, 252, 133);
            Outcome due = scene.step("31 by " + c);
            due.register(4, 1, 201, 299, 133, 0, 252 + 4 * signed(c)).check();
        }
    }

    private static void handler() {
        sentence("32: HANDLER is a. (a valid, unsealed and permits EXECUTE, else it stays.)");
        for (int old = 0; old <= 1; old++) {
            Scene scene = scene();
            if (old == 1) {
                scene.grant(9, 64, 80, 66, 12);
            }
            Scene good = scene.copy().grant(2, 301, 411, 402, 4);
            good.copy().next(32, 2, 0, 0).step("32").register(9, 1, 301, 411, 4, 0, 402).check();
            good.copy().untagged(2).next(32, 2, 0, 0).step("32 without tag").check();
            for (int type : new int[] {1, 2, 15}) {
                good.copy().sealed(2, type).next(32, 2, 0, 0).step("32 of type " + type).check();
            }
            scene.copy().grant(2, 301, 411, 402, 251).next(32, 2, 0, 0).step("32 without EXECUTE").check();
            scene.copy().number(2, 8).next(32, 2, 0, 0).step("32 of a number").check();
        }
    }

    private static void illegal() {
        sentence("Others: ILLEGAL.");
        for (int code = 33; code <= 255; code++) {
            scene().grant(2, 1, 2, 3, 4).next(code, 2, 2, 2).raises("code " + code, ILLEGAL);
        }
        for (int code = 0; code <= 32; code++) {
            CapMachine m = scene().next(code, 2, 1, 1).make();
            m.run(1);
            Checks.due("code " + code + " is ILLEGAL", m.cause() == ILLEGAL, false);
        }
    }

    private static Scene doing(Scene scene, int code) {
        scene.poke(256, 0x21, 1).grant(2, 0, 512, 256, 255).grant(3, 0, 512, 8, 255);
        if (code == UNSEAL) {
            scene.sealed(2, 8);
        }
        return scene.next(code, 4, 2, code >= 17 && code <= 19 ? 0 : 3);
    }

    private static void whatAWas() {
        sentence("a is ... (what register a was before is of no matter where it is not named)");
        for (int code = 1; code <= 31; code++) {
            boolean namesA = code >= EQUAL && code <= UNLIKE || code >= 20 && code <= 22;
            if (!namesA) {
                CapMachine bare = doing(scene(), code).make();
                bare.run(1);
                int[] due = new int[6];
                for (int part = 0; part < 6; part++) {
                    due[part] = bare.look(4, part);
                }
                Scene[] others = {
                    scene().number(4, -1), scene().grant(4, 300, 400, 350, 0), scene().grant(4, 0, 0, MIN, 255),
                    scene().grant(4, 512, 512, MAX, 4).sealed(4, 1), scene().grant(4, 300, 300, 0, 170).sealed(4, 15),
                    scene().grant(4, 300, 400, 350, 255).untagged(4), scene().unpacked(4, -1, -1),
                };
                for (Scene other : others) {
                    CapMachine m = doing(other, code).make();
                    Checks.due("code " + code + ": run(1)", m.run(1), 1);
                    Checks.due("code " + code + ": cause()", m.cause(), 0);
                    Checks.capability("code " + code, m, 4, due);
                }
            }
        }
    }

    private static void copiesAreApart() {
        sentence("7 MOVE: a is what b is. ... 16 JUMP: PC becomes b ... 31: a is PC ... 32: HANDLER is a.");
        Scene moved = scene().grant(2, 100, 200, 150, 7).done(MOVE, 4, 2, 0);
        moved.copy().next(9, 4, 4, 1).step("a moves, b stays").part(4, 5, 151).check();
        moved.copy().next(9, 2, 2, 1).step("b moves, a stays").part(2, 5, 151).check();
        moved.copy().next(NUMBER, 2, 0, 9).step("b is a number, a stays").number(2, 9).check();
        Scene jumped = scene().poke(400, Checks.op(NUMBER, 5, 0, 9), 4).grant(2, 300, 500, 400, 7);
        jumped.next(JUMP, 4, 2, 0).call(m -> m.run(1));
        jumped.step("PC moves, b and the link stay").number(5, 9).check();
        Scene relative = scene().done(31, 4, 0, 0);
        relative.copy().next(9, 4, 4, 8).step("a moves, PC only as ever").part(4, 5, 104).check();
        Scene set = scene().grant(2, 300, 500, 400, 7).done(32, 2, 0, 0);
        set.copy().next(9, 2, 2, 8).step("a moves, HANDLER stays").part(2, 5, 408).check();
        Scene taken = set.copy().poke(400, Checks.op(NUMBER, 5, 0, 9), 4).next(33, 0, 0, 0).call(m -> m.run(1));
        taken.step("PC moves, HANDLER and FAULT stay").number(5, 9).check();
        Scene stored = scene().grant(2, 100, 200, 150, 7).grant(3, 0, 512, 256, 255).done(22, 2, 3, 0);
        stored.copy().next(9, 2, 2, 1).step("a moves, what is stored stays").part(2, 5, 151).check();
        Scene loaded = stored.copy().done(19, 4, 3, 0);
        loaded.next(9, 4, 4, 1).step("what is loaded moves, what is stored stays").part(4, 5, 151).check();
    }
}
