/** 'Terms', from code 17 to 22: loads and stores, what ALLOWS them; and AN EXCEPTION. */
public final class AccessTermsTest extends Sentences {
    public static void main(String[] args) {
        loadsOfBytes();
        loadsOfWords();
        storesOfBytesAndWords();
        capabilitiesThere();
        permissionsNamed();
        storesTakeTheTag();
        storesOfCapabilitiesGiveTheTag();
        loadsLeaveTags();
        allowsInOrder();
        allowsWithinBounds();
        allowsMultiples();
        allowsWithinMemory();
        allowsWithoutWrapping();
        sameRegister();
        everyException();
        exceptionsOfTheFetch();
        handlerTakesIt();
        handlerMayFail();
        faultOfTheLatest();
        Checks.end();
    }

    private static void loadsOfBytes() {
        sentence("17 a is the NUMBER of the byte ... at ADDRESS of b + IMM");
        for (int value : new int[] {0, 1, 127, 128, 254, 255}) {
            Scene scene = scene().poke(299, -1, 4).poke(300, value, 1).grant(2, 0, 512, 302, 1).grant(4, 1, 2, 3, 4);
            scene.next(17, 4, 2, -2 & 255).step("17 of " + value).number(4, value).check();
        }
    }

    private static void loadsOfWords() {
        sentence("18 of the word ... at ADDRESS of b + IMM");
        for (int value : new int[] {0, 1, -1, MIN, MAX, 0x01020304, 0x80FF007F, 255, 256, 65535, 65536}) {
            Scene scene = scene().poke(296, 0x55555555, 4).poke(304, 0x55555555, 4).poke(300, value, 4);
            scene.grant(2, 0, 512, 302, 1).grant(4, 1, 2, 3, 4);
            scene.next(18, 4, 2, -2 & 255).step("18 of " + value).number(4, value).check();
        }
    }

    private static void storesOfBytesAndWords() {
        sentence("20, 21, 22: they are stored from a there (the byte is the lowest of a's address, the word all of it)");
        for (int value : new int[] {0, 1, 127, 128, 255, 256, 511, -1, -2, MIN, MAX, 0x01020304}) {
            for (int tag = 0; tag <= 1; tag++) {
                Scene scene = scene().poke(296, -1, 4).poke(300, 0x55555555, 4).poke(304, -1, 4);
                scene.grant(3, 8, 16, value, 255).grant(2, 0, 512, 302, 2);
                if (tag == 0) {
                    scene.untagged(3);
                }
                Outcome one = scene.copy().next(20, 3, 2, 1).step("20 of " + value);
                one.bytes(303, value & 255).check();
                Outcome four = scene.copy().next(21, 3, 2, -2 & 255).step("21 of " + value);
                four.word(300, value).check();
            }
        }
    }

    private static void capabilitiesThere() {
        sentence("19 the capability at ADDRESS of b + IMM. 22: stored from a there");
        for (int at : new int[] {0, 8, 256, 496, 504}) {
            for (int imm : new int[] {-5, 0, 3}) {
                Scene scene = scene().grant(3, 7, 9, 11, 135).sealed(3, 13).grant(2, 0, 512, at - imm, 27);
                Outcome stored = scene.copy().next(22, 3, 2, imm & 255).step("22 at " + at + ", IMM " + imm);
                stored.word(at, 11).word(at + 4, packed(7, 9, 13, 135)).tag(at / 8, 1).check();
                Scene there = scene.copy().done(22, 3, 2, imm & 255).grant(4, 1, 2, 3, 4);
                Outcome loaded = there.next(19, 4, 2, imm & 255).step("19 at " + at + ", IMM " + imm);
                loaded.register(4, 1, 7, 9, 135, 13, 11).check();
            }
        }
    }

    private static void permissionsNamed() {
        sentence("b is what allows it (below): 17, 18 LOAD; 19 LOAD and LOAD CAPABILITIES; 20, 21 STORE; 22 STORE, and if a "
            + "is valid STORE CAPABILITIES.");
        int[] needed = {1, 1, 1 | 8, 2, 2, 2 | 16};
        for (int code = 17; code <= 22; code++) {
            for (int bits = 0; bits <= 31; bits++) {
                Scene valid = scene().grant(3, 0, 0, 5, 0).grant(2, 256, 264, 256, bits).next(code, 3, 2, 0);
                allowedIf((bits & needed[code - 17]) == needed[code - 17], valid, code + " with " + bits);
                Scene bare = scene().grant(3, 0, 0, 5, 31).untagged(3).grant(2, 256, 264, 256, bits).next(code, 3, 2, 0);
                int need = code == 22 ? 2 : needed[code - 17];
                allowedIf((bits & need) == need, bare, code + " without tag, with " + bits);
            }
        }
        Scene sealed = scene().grant(3, 0, 0, 5, 255).sealed(3, 5).grant(2, 256, 264, 256, 2).next(22, 3, 2, 0);
        sealed.raises("22 of a sealed one", PERMISSION);
    }

    private static void allowedIf(boolean allowed, Scene scene, String what) {
        if (!allowed) {
            scene.raises(what, PERMISSION);
            return;
        }
        CapMachine m = scene.make();
        Checks.due(what + ": run(1)", m.run(1), 1);
        Checks.due(what + ": cause()", m.cause(), 0);
        Checks.due(what + ": state()", m.state(), 0);
    }

    private static void storesTakeTheTag() {
        sentence("What is stored takes the tag of its place away");
        Scene tagged = scene().tag(31).tag(32).tag(33).grant(2, 0, 512, 256, 2).number(3, 0x11223344);
        for (int i = 0; i < 8; i++) {
            tagged.copy().next(20, 3, 2, i).step("20 at " + i).bytes(256 + i, 0x44).tag(32, 0).check();
        }
        for (int i = 0; i < 8; i += 4) {
            tagged.copy().next(21, 3, 2, i).step("21 at " + i).word(256 + i, 0x11223344).tag(32, 0).check();
        }
        tagged.copy().next(20, 3, 2, -1 & 255).step("20 before").bytes(255, 0x44).tag(31, 0).check();
        tagged.copy().next(20, 3, 2, 8).step("20 behind").bytes(264, 0x44).tag(33, 0).check();
        Scene same = scene().tag(32).grant(2, 0, 512, 256, 2).address(3, 256).next(21, 3, 2, 0);
        same.step("21 of what is there").tag(32, 0).check();
    }

    private static void storesOfCapabilitiesGiveTheTag() {
        sentence("22 gives it a's");
        for (int old = 0; old <= 1; old++) {
            Scene scene = scene();
            if (old == 1) {
                scene.tag(31).tag(32).tag(33);
            }
            scene.grant(2, 0, 512, 256, 18).grant(3, 7, 9, 11, 135);
            Outcome valid = scene.copy().next(22, 3, 2, 0).step("22 of a valid one");
            valid.word(256, 11).word(260, packed(7, 9, 0, 135)).tag(32, 1).check();
            Outcome bare = scene.copy().untagged(3).next(22, 3, 2, 0).step("22 of one without tag");
            bare.word(256, 11).word(260, packed(7, 9, 0, 135)).tag(32, 0).check();
            Outcome number = scene.copy().number(3, -9).next(22, 3, 2, 0).step("22 of a number");
            number.word(256, -9).word(260, 0).tag(32, 0).check();
        }
    }

    private static void loadsLeaveTags() {
        sentence("17 a is the NUMBER of the byte, 18 of the word, 19 the capability");
        for (int code = 17; code <= 19; code++) {
            Outcome due = scene().tag(32).grant(2, 0, 512, 256, 9).next(code, 4, 2, 0).step("code " + code);
            if (code == 19) {
                due.register(4, 1, 0, 512, 255, 0, 256).check();
            } else {
                due.number(4, code == 17 ? 0 : 256).check();
            }
        }
    }

    private static void allowsInOrder() {
        sentence("A capability ALLOWS n bytes at an address if it is valid, else TAG; unsealed, else SEALED; has all permissions "
            + "that are named, else PERMISSION; ... else BOUNDS; and it is a multiple of n, else ALIGNMENT.");
        for (int code = 17; code <= 22; code++) {
            int n = bytesOf(code);
            for (int type : new int[] {1, 2, 15}) {
                int bits = type == 1 ? 4 : 0;
                Scene sealed = scene().grant(2, 256, 272, 999, bits).sealed(2, type);
                sealed.copy().untagged(2).next(code, 1, 2, 0).raises(code + ": TAG before SEALED", TAG);
                sealed.copy().next(code, 1, 2, 0).raises(code + ": SEALED before PERMISSION", SEALED);
                Scene permitted = scene().grant(2, 256, 272, 999, 255).sealed(2, type);
                permitted.next(code, 1, 2, 0).raises(code + ": SEALED before BOUNDS", SEALED);
                Scene inside = scene().grant(2, 256, 272, 257, 255).sealed(2, type);
                inside.next(code, 1, 2, 0).raises(code + ": SEALED before ALIGNMENT", SEALED);
            }
            Scene bare = scene().grant(2, 256, 272, 999, 0).untagged(2);
            bare.next(code, 1, 2, 0).raises(code + ": TAG before PERMISSION", TAG);
            scene().grant(2, 256, 272, 999, 0).next(code, 1, 2, 0).raises(code + ": PERMISSION before BOUNDS", PERMISSION);
            scene().grant(2, 256, 272, 257, 0).next(code, 1, 2, 0).raises(code + ": before ALIGNMENT", PERMISSION);
            scene().grant(2, 256, 272, 273, 255).next(code, 1, 2, 0).raises(code + ": BOUNDS before ALIGNMENT", BOUNDS);
            scene().number(2, 256).next(code, 1, 2, 0).raises(code + " by a number", TAG);
            if (n > 1) {
                scene().grant(2, 256, 272, 257, 255).next(code, 1, 2, 0).raises(code + ": ALIGNMENT", ALIGNMENT);
            }
        }
    }

    private static void allowsWithinBounds() {
        sentence("the address is not below base and address + n not above top (nor 512), else BOUNDS");
        for (int code = 17; code <= 22; code++) {
            int n = bytesOf(code);
            for (int by = -2; by <= 2; by++) {
                Scene low = scene().grant(2, 256 + by, 400, 256, 255);
                accessOrNot(low, code, 256, by > 0 ? BOUNDS : 0, "base " + (256 + by));
                Scene high = scene().grant(2, 200, 256 + n + by, 256, 255);
                accessOrNot(high, code, 256, by < 0 ? BOUNDS : 0, "top " + (256 + n + by));
            }
            accessOrNot(scene().grant(2, 256, 256 + n, 256, 255), code, 256, 0, "just so");
            accessOrNot(scene().grant(2, 256, 256, 256, 255), code, 256, BOUNDS, "none at all");
            accessOrNot(scene().grant(2, 264, 272, 256, 255), code, 256, BOUNDS, "below");
            accessOrNot(scene().grant(2, 240, 256, 256, 255), code, 256, BOUNDS, "above");
        }
    }

    private static void allowsMultiples() {
        sentence("and it is a multiple of n, else ALIGNMENT. (The bytes of a capability are 8.");
        for (int code = 17; code <= 22; code++) {
            int n = bytesOf(code);
            for (int at = 296; at <= 312; at++) {
                int due = at % n == 0 ? 0 : ALIGNMENT;
                accessOrNot(scene().grant(2, 200, 400, at, 255), code, at, due, "at " + at);
                accessOrNot(scene().grant(2, 201, 399, at, 255), code, at, due, "in 201, 399 at " + at);
            }
        }
    }

    private static void allowsWithinMemory() {
        sentence("the address is not below base and address + n not above top (nor 512), else BOUNDS");
        for (int code = 17; code <= 22; code++) {
            int n = bytesOf(code);
            int[] out = {-n, -1, 513 - n, 512, 513, 512 + n, -513, 1024};
            for (int at : out) {
                accessOrNot(scene().grant(2, 0, 512, at, 255), code, at, BOUNDS, "at " + at);
            }
            accessOrNot(scene().grant(2, 0, 512, 0, 255), code, 0, 0, "at 0");
            accessOrNot(scene().grant(2, 0, 512, n, 255), code, n, 0, "at " + n);
            accessOrNot(scene().grant(2, 0, 512, 512 - n, 255), code, 512 - n, 0, "at the last");
            if (n > 1) {
                accessOrNot(scene().grant(2, 0, 512, 511 - n, 255), code, 511 - n, ALIGNMENT, "just before the last");
            }
        }
    }

    private static void accessOrNot(Scene scene, int code, int at, int exception, String where) {
        String what = code + ", " + where;
        if (exception != 0) {
            scene.number(4, 0x11223344).next(code, 4, 2, 0).raises(what, exception);
            return;
        }
        if (code >= 20) {
            Outcome due = scene.number(4, 0x11223344).next(code, 4, 2, 0).step(what);
            stored(due, code, at);
            return;
        }
        scene.grant(4, 1, 2, 3, 4).poke(at, 0xF7, 1).next(code, 4, 2, 0).step(what).number(4, 0xF7).check();
    }

    private static void stored(Outcome due, int code, int at) {
        if (code == 20) {
            due.bytes(at, 0x44).check();
        } else if (code == 21) {
            due.word(at, 0x11223344).check();
        } else {
            due.word(at, 0x11223344).word(at + 4, 0).check();
        }
    }

    private static void allowsWithoutWrapping() {
        sentence("Sums of addresses do not wrap here: what goes beyond ints is out of bounds.");
        int[][] rows = {
            // address, IMM
            {MAX, 0}, {MAX, 1}, {MAX, 127}, {MAX - 126, 127}, {MAX - 127, 127}, {MAX - 3, 0}, {MAX - 7, 0}, {MAX - 7, 8},
            {MIN, 0}, {MIN, -1}, {MIN, -128}, {MIN + 127, -128}, {MIN + 128, -128}, {MIN + 8, -16}, {-1, 0}, {-8, 0},
        };
        for (int[] row : rows) {
            for (int code = 17; code <= 22; code++) {
                String what = code + " at " + row[0] + " + " + row[1];
                scene().grant(2, 0, 512, row[0], 255).next(code, 4, 2, row[1] & 255).raises(what, BOUNDS);
            }
        }
        scene().grant(2, 0, 512, -8, 255).poke(0, 9, 1).next(17, 4, 2, 8).step("from below 0 to 0").number(4, 9).check();
        scene().grant(2, 0, 512, 512, 255).poke(511, 9, 1).next(17, 4, 2, 255).step("from 512 back").number(4, 9).check();
    }

    private static void sameRegister() {
        sentence("17 a is the NUMBER of the byte, 18 of the word, 19 the capability at ADDRESS of b + IMM.");
        Scene scene = scene().poke(256, 0x01020304, 4).poke(260, packed(5, 6, 7, 8), 4).grant(2, 256, 264, 256, 255);
        scene.copy().next(17, 2, 2, 0).step("17 into b").number(2, 4).check();
        scene.copy().next(18, 2, 2, 0).step("18 into b").number(2, 0x01020304).check();
        scene.copy().next(19, 2, 2, 0).step("19 into b").register(2, 0, 5, 6, 8, 7, 0x01020304).check();
        scene.copy().next(20, 2, 2, 0).step("20 of b").bytes(256, 0).check();
        scene.copy().next(21, 2, 2, 0).step("21 of b").word(256, 256).check();
        Outcome due = scene.copy().next(22, 2, 2, 0).step("22 of b");
        due.word(256, 256).word(260, packed(256, 264, 0, 255)).tag(32, 1).check();
    }

    private static void everyException() {
        sentence("AN EXCEPTION (1 TAG, 2 SEALED, 3 PERMISSION, 4 BOUNDS, 5 ALIGNMENT, 6 INEXACT, 7 KIND, 8 ILLEGAL; the first one "
            + "that is named): the instruction does nothing; CAUSE is that, and FAULT the capability PC.");
        Scene scene = scene().tag(32).number(6, -1).grant(2, 0, 512, 257, 255).grant(3, 0, 512, 70, 255);
        scene.copy().next(17, 2, 6, 0).raises("1 TAG", 1);
        scene.copy().sealed(2, 3).next(9, 2, 2, 1).raises("2 SEALED", 2);
        scene.copy().grant(4, 0, 512, 256, 253).next(20, 2, 4, 0).raises("3 PERMISSION", 3);
        scene.copy().grant(4, 0, 256, 256, 255).next(20, 2, 4, 0).raises("4 BOUNDS", 4);
        scene.copy().next(22, 2, 2, 0).raises("5 ALIGNMENT", 5);
        scene.copy().next(11, 2, 2, 3).raises("6 INEXACT", 6);
        scene.copy().next(SEAL, 2, 2, 3).raises("7 KIND", 7);
        scene.copy().next(33, 2, 2, 3).raises("8 ILLEGAL", 8);
    }

    private static void exceptionsOfTheFetch() {
        sentence("the instruction does nothing; CAUSE is that, and FAULT the capability PC");
        Scene store = scene().poke(128, Checks.op(20, 1, 1, 0), 4).tag(0);
        store.copy().grant(8, 0, 512, 128, 251).raises("a fetch without EXECUTE", PERMISSION);
        store.copy().grant(8, 0, 131, 128, 4).raises("a fetch beyond top", BOUNDS);
        store.copy().grant(8, 129, 256, 128, 4).raises("a fetch below base", BOUNDS);
        store.copy().poke(127, Checks.op(20, 1, 1, 0), 4).grant(8, 0, 512, 127, 4).raises("a fetch askew", ALIGNMENT);
        Scene far = scene().poke(240, Checks.op(EQUAL, 0, 0, 127), 4).grant(8, 200, 280, 240, 5).call(m -> m.run(1));
        far.raises("a fetch without tag", TAG);
        Scene handled = far.grant(9, 0, 512, 64, 4).call(m -> m.run(1));
        Checks.capability("FAULT without tag", handled.make(), 10, 0, 200, 280, 5, 0, 752);
    }

    private static void handlerTakesIt() {
        sentence("If HANDLER is valid, PC becomes it, otherwise the machine stops.");
        Scene bad = scene().poke(128, 33, 4).grant(8, 100, 200, 128, 5);
        Outcome stopped = bad.after("no HANDLER", m -> Checks.due("run(5)", m.run(5), 1));
        stopped.register(10, 1, 100, 200, 5, 0, 128).exception(ILLEGAL).state(2).check();
        Scene handled = bad.copy().grant(9, 301, 411, 402, 6);
        Outcome taken = handled.after("HANDLER", m -> Checks.due("run(5)", m.run(5), 1));
        taken.exception(ILLEGAL).register(8, 1, 301, 411, 6, 0, 402).register(10, 1, 100, 200, 5, 0, 128).state(0).check();
        Scene set = scene().grant(2, 301, 411, 402, 6).done(32, 2, 0, 0).poke(128, 33, 4).grant(8, 100, 200, 128, 5);
        Outcome own = set.after("HANDLER by 32", m -> Checks.due("run(5)", m.run(5), 1));
        own.exception(ILLEGAL).register(8, 1, 301, 411, 6, 0, 402).register(9, 1, 301, 411, 6, 0, 402).state(0).check();
        Scene stopping = bad.copy().call(m -> m.run(1));
        stopping.changesNothing("run when stopped", m -> Checks.due("run(5)", m.run(5), 0));
    }

    private static void handlerMayFail() {
        sentence("If HANDLER is valid, PC becomes it, otherwise the machine stops.");
        int[][] rows = {
            // HANDLER's base, top, address, permissions, the exception of its first step
            {0, 512, 400, 251, PERMISSION}, {0, 512, 402, 4, ALIGNMENT}, {0, 512, 512, 4, BOUNDS}, {404, 512, 400, 4, BOUNDS},
        };
        for (int[] row : rows) {
            Scene scene = scene().grant(9, row[0], row[1], row[2], row[3]).next(33, 0, 0, 0).call(m -> m.run(1));
            for (int again = 0; again < 3; again++) {
                Outcome due = scene.after("a HANDLER that fails", m -> Checks.due("run(5)", m.run(5), 1));
                due.exception(row[4]).register(8, 1, row[0], row[1], row[3], 0, row[2]).state(0).check();
                scene.call(m -> m.run(1));
            }
        }
    }

    private static void faultOfTheLatest() {
        sentence("CAUSE is that, and FAULT the capability PC.");
        Scene scene = scene().poke(128, 33, 4).poke(400, Checks.op(17, 2, 0, 0), 4).grant(9, 300, 500, 400, 7);
        scene.grant(8, 100, 200, 128, 5).call(m -> m.run(1));
        CapMachine first = scene.make();
        Checks.due("the first cause", first.cause(), ILLEGAL);
        Checks.capability("the first FAULT", first, 10, 1, 100, 200, 5, 0, 128);
        CapMachine second = scene.call(m -> m.run(1)).make();
        Checks.due("the second cause", second.cause(), TAG);
        Checks.capability("the second FAULT", second, 10, 1, 300, 500, 7, 0, 400);
    }
}
