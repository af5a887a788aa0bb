/** 'Terms', up to AN INSTRUCTION: a capability and its parts, memory and its places, EXACT, NEAR, the tag that goes. */
public final class CapabilityTermsTest extends Sentences {
    private static final int[] EDGE_ADDRESSES = {MIN, MIN + 1, -1, 0, 1, 511, 512, 513, MAX - 1, MAX};

    public static void main(String[] args) {
        boundsOfACapability();
        boundsThatAreNone();
        addresses();
        permissionBits();
        typeBits();
        typesSealed();
        typesWithoutTag();
        numbersAreBare();
        memoryBytes();
        placesGetTags();
        placesAreEightBytes();
        layout();
        layoutByteByByte();
        placesWithoutTag();
        wordsOfPlacesWithoutTag();
        registers();
        exactBounds();
        exactBoundsAll();
        nearAddresses();
        nearOfPc();
        nearOfBranches();
        tagGoesAlone();
        tagGoesButForGrant();
        Checks.end();
    }

    private static void boundsOfACapability() {
        sentence("a BASE and a TOP (0 .. 512; base not above top)");
        int[][] rows = {
            {0, 0}, {0, 1}, {1, 1}, {1, 2}, {0, 511}, {0, 512}, {1, 512}, {511, 511}, {511, 512}, {512, 512}, {255, 256},
        };
        for (int[] row : rows) {
            for (int r = 0; r <= 9; r++) {
                int at = r;
                String what = "grant(" + r + ", " + row[0] + ", " + row[1] + ")";
                Outcome due = scene().after(what, m -> m.grant(at, row[0], row[1], 3, 5));
                due.register(r, 1, row[0], row[1], 5, 0, 3).check();
            }
        }
    }

    private static void boundsThatAreNone() {
        sentence("a BASE and a TOP (0 .. 512; base not above top)");
        int[][] rows = {
            {-1, -1}, {-1, 0}, {-1, 512}, {0, -1}, {1, 0}, {2, 1}, {512, 511}, {512, 0}, {0, 513}, {512, 513}, {513, 513},
            {513, 512}, {0, 1024}, {MIN, 0}, {MIN, MIN}, {0, MIN}, {MIN, MAX}, {0, MAX}, {MAX, MAX}, {MAX, 0}, {MAX, MIN},
        };
        for (int[] row : rows) {
            for (int r : new int[] {0, 7, 8, 9}) {
                String what = "grant(" + r + ", " + row[0] + ", " + row[1] + ")";
                scene().refuses(what, m -> m.grant(r, row[0], row[1], 3, 5));
            }
        }
    }

    private static void addresses() {
        sentence("an ADDRESS (an int)");
        for (int address : EDGE_ADDRESSES) {
            Outcome granted = scene().after("grant at " + address, m -> m.grant(2, 8, 16, address, 5));
            granted.register(2, 1, 8, 16, 5, 0, address).check();
            Scene number = scene().number(3, address).next(MOVE, 4, 3, 0);
            number.step("a number " + address).number(4, address).check();
            Scene read = scene().grant(3, 8, 16, address, 5).next(28, 4, 3, 0);
            read.step("28 of " + address).number(4, address).check();
        }
    }

    private static void permissionBits() {
        sentence("PERMISSIONS (bits: 1 LOAD, 2 STORE, 4 EXECUTE, 8 LOAD CAPABILITIES, 16 STORE CAPABILITIES, "
            + "32 SEAL, 64 UNSEAL, 128 of no meaning)");
        for (int bit = 0; bit <= 8; bit++) {
            int one = bit == 8 ? 0 : 1 << bit;
            permissionsOf(one);
            permissionsOf(255 - one);
        }
    }

    private static void permissionsOf(int bits) {
        Scene granted = scene().grant(2, 256, 264, 256, bits).grant(3, 0, 16, 9, bits).grant(5, 256, 264, 256, bits);
        int[] needed = {1, 1, 1 | 8, 2, 2, 2 | 16};
        for (int code = 17; code <= 22; code++) {
            int need = needed[code - 17];
            permitted(granted.copy().next(code, 1, 2, 0), code + " with permissions " + bits, bits, need);
        }
        permitted(granted.copy().number(1, 7).next(22, 1, 2, 0), "22 of a number with " + bits, bits, 2);
        permitted(granted.copy().next(SEAL, 1, 2, 3), "13 with permissions " + bits, bits, 32);
        Scene sealed = scene().grant(2, 256, 264, 256, bits).sealed(2, 9).grant(3, 0, 16, 9, bits);
        permitted(sealed.next(UNSEAL, 1, 2, 3), "14 with permissions " + bits, bits, 64);
        permitted(granted.copy().next(ENTRY, 1, 2, 0), "15 with permissions " + bits, bits, 4);
        permitted(granted.copy().next(JUMP, 1, 2, 0), "16 with permissions " + bits, bits, 4);
        permitted(scene().poke(128, MOVE, 4).grant(8, 0, 512, 128, bits), "PC with permissions " + bits, bits, 4);
        Outcome handler = granted.copy().next(32, 5, 0, 0).step("32 with permissions " + bits);
        if ((bits & 4) != 0) {
            handler.becomes(9, 5);
        }
        handler.check();
        granted.copy().next(26, 4, 2, 0).step("26 of " + bits).number(4, bits).check();
    }

    private static void permitted(Scene scene, String what, int bits, int need) {
        if ((bits & need) != need) {
            scene.raises(what, PERMISSION);
            return;
        }
        CapMachine m = scene.make();
        Checks.due(what + ": run(1)", m.run(1), 1);
        Checks.due(what + ": state()", m.state(), 0);
        Checks.due(what + ": cause()", m.cause(), 0);
    }

    private static void typeBits() {
        sentence("a TYPE 0 .. 15 (0 UNSEALED, 1 ENTRY, others SEALED with it)");
        for (int type = -1; type <= 17; type++) {
            Scene scene = scene().grant(2, 8, 16, 9, 3).grant(3, 0, 512, type, 32).next(SEAL, 4, 2, 3);
            String what = "a seal of type " + type;
            if (type == -1) {
                scene.raises(what, BOUNDS);
            } else if (type < 2 || type > 15) {
                scene.raises(what, KIND);
            } else {
                scene.step(what).register(4, 1, 8, 16, 3, type, 9).check();
            }
        }
        scene().grant(2, 8, 16, 9, 7).next(ENTRY, 4, 2, 0).step("an entry").register(4, 1, 8, 16, 7, 1, 9).check();
    }

    private static Scene ofType(int type) {
        return scene().grant(2, 0, 512, 256, 255).sealed(2, type).grant(3, 0, 512, 8, 255).grant(5, 0, 512, type, 255);
    }

    private static void typesSealed() {
        sentence("a TYPE 0 .. 15 (0 UNSEALED, 1 ENTRY, others SEALED with it)");
        for (int type = 0; type <= 15; type++) {
            for (int code = 7; code <= 30; code++) {
                boolean needsUnsealed = code >= 8 && code <= 13 || code == ENTRY || code >= 17 && code <= 22;
                boolean refused = needsUnsealed && type != 0 || code == UNSEAL && type < 2 || code == JUMP && type > 1;
                sealedOrNot(ofType(type), type, code, refused);
            }
            Scene sealer = scene().grant(2, 0, 16, 5, 255).sealed(2, type).next(SEAL, 4, 1, 2);
            sealedOrNot(sealer, "13, c of type " + type, type != 0);
            Scene unsealer = scene().grant(3, 8, 16, 8, 0).sealed(3, 5).grant(2, 0, 16, 5, 255).sealed(2, type);
            sealedOrNot(unsealer.next(UNSEAL, 4, 3, 2), "14, c of type " + type, type != 0);
            Outcome handler = ofType(type).next(32, 2, 0, 0).step("32 of type " + type);
            if (type == 0) {
                handler.becomes(9, 2);
            }
            handler.check();
        }
    }

    private static void sealedOrNot(Scene scene, int type, int code, boolean refused) {
        int c = code == UNSEAL ? 5 : code == 9 || code >= 17 && code <= 22 ? 8 : 3;
        scene.next(code, 4, 2, c);
        sealedOrNot(scene, code + " of type " + type, refused);
    }

    private static void sealedOrNot(Scene scene, String what, boolean refused) {
        if (refused) {
            scene.raises(what, SEALED);
            return;
        }
        CapMachine m = scene.make();
        Checks.due(what + ": run(1)", m.run(1), 1);
        Checks.due(what + ": cause()", m.cause(), 0);
    }

    private static void typesWithoutTag() {
        sentence("It is VALID if it has its tag.");
        for (int type = 0; type <= 15; type++) {
            for (int code = 10; code <= 22; code++) {
                if (code != 12) {
                    int c = code == UNSEAL ? 5 : code >= 17 ? 8 : 3;
                    ofType(type).untagged(2).next(code, 4, 2, c).raises(code + " without tag, type " + type, TAG);
                }
            }
            Scene none = ofType(type).untagged(2);
            Outcome eight = none.copy().next(8, 4, 2, 3).step("8 without tag, type " + type);
            eight.register(4, 0, 0, 512, 255, type, 8).check();
            Outcome nine = none.copy().next(9, 4, 2, 8).step("9 without tag, type " + type);
            nine.register(4, 0, 0, 512, 255, type, 264).check();
            Outcome twelve = none.copy().next(12, 4, 2, 3).step("12 without tag, type " + type);
            twelve.register(4, 0, 0, 512, 8, type, 256).check();
            none.copy().next(32, 2, 0, 0).step("32 without tag, type " + type).check();
            none.copy().next(23, 4, 2, 0).step("23 without tag, type " + type).number(4, 0).check();
        }
    }

    private static void numbersAreBare() {
        sentence("A NUMBER is one without tag, bounds 0, 0, permissions and type 0, with the number as its address.");
        int[][] rows = {
            // code, the number due
            {NUMBER, 256 * 2 + 3}, {ADD, 256 + 40}, {TAKE, 256 - 40}, {17, 0x91}, {18, 0x80FEFF91}, {23, 1}, {24, 8},
            {25, 511}, {26, 29}, {27, 0}, {28, 256}, {30, 0},
        };
        for (int[] row : rows) {
            Scene scene = scene().grant(2, 8, 511, 256, 29).grant(3, 9, 510, 40, 3).grant(4, 1, 2, 3, 4).sealed(4, 14);
            scene.poke(259, 0x80FEFF91, 4).poke(256, 0x80FEFF91, 4);
            int c = row[0] == 17 || row[0] == 18 ? 0 : 3;
            scene.next(row[0], 4, 2, c).step("code " + row[0]).number(4, row[1]).check();
        }
    }

    private static void memoryBytes() {
        sentence("MEMORY is the bytes 0 .. 511");
        for (int at : new int[] {-1, 0, 1, 510, 511, 512}) {
            boolean there = at >= 0 && at <= 511;
            Scene load = scene().grant(2, 0, 512, at, 1);
            Scene store = scene().grant(2, 0, 512, at, 2).address(3, 0x1FE).next(20, 3, 2, 0);
            if (there) {
                scene().after("poke " + at, m -> m.poke(at, 0x1FE, 1)).bytes(at, 0xFE).check();
                load.poke(at, 0xFE, 1).next(17, 4, 2, 0).step("17 at " + at).number(4, 0xFE).check();
                store.step("20 at " + at).bytes(at, 0xFE).check();
            } else {
                scene().refuses("poke " + at, m -> m.poke(at, 0x1FE, 1));
                scene().refuses("peek " + at, m -> m.peek(at));
                load.next(17, 4, 2, 0).raises("17 at " + at, BOUNDS);
                store.raises("20 at " + at, BOUNDS);
            }
        }
    }

    private static void placesGetTags() {
        sentence("and 64 tags, one for each PLACE: eight bytes from a multiple of 8 on");
        for (int p = 0; p < 64; p++) {
            Scene scene = scene().grant(2, 0, 512, 8 * p, 255).grant(3, 1, 2, 3, 4);
            Outcome due = scene.nextAt(p == 16 ? 256 : 128, 22, 3, 2, 0).step("22 at place " + p);
            due.tag(p, 1).word(8 * p, 3).word(8 * p + 4, packed(1, 2, 0, 4)).check();
        }
    }

    private static void placesAreEightBytes() {
        sentence("and 64 tags, one for each PLACE: eight bytes from a multiple of 8 on");
        for (int p : new int[] {1, 32, 62}) {
            Scene scene = scene().tag(p - 1).tag(p).tag(p + 1);
            for (int i = -8; i < 16; i++) {
                int at = 8 * p + i;
                int place = i < 0 ? p - 1 : i < 8 ? p : p + 1;
                scene.after("poke " + at, m -> m.poke(at, 0xEE, 1)).bytes(at, 0xEE).tag(place, 0).check();
            }
        }
    }

    private static void layout() {
        sentence("A capability is eight bytes: its address, then base + 1024 * top + 1048576 * type + "
            + "16777216 * permissions, each as four bytes, the lowest first; and the tag of the place.");
        int[][] rows = {
            // base, top, permissions, type, address
            {0, 0, 0, 0, 0}, {0, 0, 0, 0, 1}, {0, 0, 0, 0, -1}, {0, 0, 0, 0, MAX}, {0, 0, 0, 0, MIN}, {0, 1, 0, 0, 0},
            {1, 1, 0, 0, 0}, {0, 511, 0, 0, 0}, {0, 512, 0, 0, 0}, {511, 512, 0, 0, 0}, {512, 512, 0, 0, 0},
            {0, 0, 4, 1, 0}, {0, 0, 0, 2, 0}, {0, 0, 0, 8, 0}, {0, 0, 0, 15, 0}, {0, 0, 1, 0, 0}, {0, 0, 127, 0, 0},
            {0, 0, 128, 0, 0}, {0, 0, 255, 0, 0}, {512, 512, 255, 15, -1}, {512, 512, 255, 1, MAX}, {5, 300, 147, 9, 77},
        };
        for (int[] row : rows) {
            int packed = packed(row[0], row[1], row[3], row[2]);
            for (int tag = 0; tag <= 1; tag++) {
                Scene scene = scene().grant(3, row[0], row[1], row[4], row[2]).sealed(3, row[3]);
                if (tag == 0) {
                    scene.untagged(3);
                }
                scene.grant(2, 0, 512, 256, 31);
                String what = "packed " + packed + " with tag " + tag;
                Outcome stored = scene.copy().next(22, 3, 2, 0).step(what);
                stored.word(256, row[4]).word(260, packed).tag(32, tag).check();
                Outcome loaded = scene.copy().done(22, 3, 2, 0).next(19, 4, 2, 0).step(what);
                loaded.register(4, tag, row[0], row[1], row[2], row[3], row[4]).check();
            }
        }
    }

    private static void layoutByteByByte() {
        sentence("each as four bytes, the lowest first");
        Scene scene = scene().grant(3, 0x102, 0x1FE, 0x84030201, 0xC5).sealed(3, 0xB).grant(2, 0, 512, 256, 31);
        Outcome due = scene.next(22, 3, 2, 0).step("22");
        due.bytes(256, 0x01, 0x02, 0x03, 0x84, 0x02, 0xF9, 0xB7, 0xC5).tag(32, 1).check();
    }

    private static void placesWithoutTag() {
        sentence("Of a place without tag the capability is what its bytes say, base and top being the lowest ten bits "
            + "of theirs, which may be more than 512.");
        int[][] rows = {
            // base, top, permissions, type
            {0, 0, 0, 0}, {511, 0, 0, 0}, {512, 0, 0, 0}, {513, 0, 0, 0}, {1023, 0, 0, 0}, {0, 511, 0, 0}, {0, 512, 0, 0},
            {0, 513, 0, 0}, {0, 1023, 0, 0}, {1023, 1023, 0, 0}, {0, 0, 0, 1}, {0, 0, 0, 15}, {0, 0, 1, 0}, {0, 0, 255, 0},
            {1023, 1023, 255, 15}, {600, 3, 5, 6}, {3, 600, 5, 6}, {0, 0, 128, 0}, {0, 0, 127, 15},
        };
        for (int[] row : rows) {
            int packed = packed(row[0], row[1], row[3], row[2]);
            Scene scene = scene().poke(256, -7, 4).poke(260, packed, 4).grant(2, 0, 512, 256, 31);
            Outcome loaded = scene.copy().next(19, 4, 2, 0).step("19 of " + packed);
            loaded.register(4, 0, row[0], row[1], row[2], row[3], -7).check();
            Outcome stored = scene.copy().done(19, 4, 2, 0).next(22, 4, 2, 16).step("22 of " + packed);
            stored.word(272, -7).word(276, packed).check();
            int[] parts = {0, row[0], row[1], row[2], row[3], -7};
            for (int i = 0; i < 6; i++) {
                Scene read = scene.copy().done(19, 4, 2, 0).next(23 + i, 5, 4, 0);
                read.step(23 + i + " of " + packed).number(5, parts[i]).check();
            }
        }
    }

    private static void wordsOfPlacesWithoutTag() {
        sentence("Of a place without tag the capability is what its bytes say");
        for (int at = 0; at < 8; at++) {
            Scene scene = scene().tag(32).grant(2, 0, 512, 256, 31).poke(256 + at, 0x55, 1);
            Outcome due = scene.next(19, 4, 2, 0).step("19 behind a poke of byte " + at);
            long bytes = 256L | (long) packed(0, 512, 0, 255) << 32;
            bytes = bytes & ~(0xFFL << (8 * at)) | 0x55L << (8 * at);
            int packed = (int) (bytes >>> 32);
            int top = packed >>> 10 & 1023;
            due.register(4, 0, packed & 1023, top, packed >>> 24, packed >>> 20 & 15, (int) bytes).check();
        }
    }

    private static void registers() {
        sentence("REGISTERS 0 .. 7 hold capabilities; so do PC and HANDLER. "
            + "Registers are the lowest three bits of a, b, c");
        for (int r = 0; r <= 7; r++) {
            for (int high : new int[] {0, 8, 16, 128, 248}) {
                int field = high + r;
                Scene scene = scene().grant(9, 2, 3, 4, 4);
                for (int i = 0; i <= 7; i++) {
                    scene.grant(i, i, 100 + i, 10 + i, i);
                }
                Outcome a = scene.copy().next(NUMBER, field, 0, 77).step("a is " + field);
                a.number(r, 77).check();
                Outcome b = scene.copy().next(MOVE, 0, field, 0).step("b is " + field);
                b.register(0, 1, r, 100 + r, r, 0, 10 + r).check();
                Outcome c = scene.copy().next(ADD, 0, 1, field).step("c is " + field);
                c.number(0, 11 + 10 + r).check();
                Outcome handler = scene.copy().grant(r, 5, 6, 7, 4).next(32, field, 0, 0).step("32 of " + field);
                handler.register(9, 1, 5, 6, 4, 0, 7).check();
            }
        }
    }

    private static void exactBounds() {
        sentence("EXACT are bounds if top - base is at most 64, or both are multiples of 8.");
        int[][] rows = {
            // base, top, whether exact, base and top when made so
            {1, 64, 1, 1, 64}, {1, 65, 1, 1, 65}, {1, 66, 0, 0, 72}, {8, 71, 1, 8, 71}, {8, 72, 1, 8, 72}, {8, 73, 0, 8, 80},
            {8, 79, 0, 8, 80}, {8, 80, 1, 8, 80}, {8, 81, 0, 8, 88}, {7, 80, 0, 0, 80}, {9, 80, 0, 8, 80}, {7, 79, 0, 0, 80},
            {15, 80, 0, 8, 80}, {4, 68, 1, 4, 68}, {4, 76, 0, 0, 80}, {0, 512, 1, 0, 512}, {1, 512, 0, 0, 512},
            {0, 511, 0, 0, 512}, {7, 505, 0, 0, 512}, {447, 511, 1, 447, 511}, {447, 512, 0, 440, 512},
            {448, 512, 1, 448, 512}, {0, 0, 1, 0, 0}, {3, 3, 1, 3, 3}, {512, 512, 1, 512, 512}, {511, 512, 1, 511, 512},
        };
        for (int[] row : rows) {
            exactOrNot(row[0], row[1], row[2] == 1, row[3], row[4]);
        }
    }

    private static void exactBoundsAll() {
        sentence("EXACT are bounds if top - base is at most 64, or both are multiples of 8.");
        for (int base = 48; base <= 64; base += 1) {
            for (int top = base + 62; top <= base + 74; top++) {
                boolean exact = top - base <= 64 || base % 8 == 0 && top % 8 == 0;
                int lower = exact ? base : base - base % 8;
                int upper = exact || top % 8 == 0 ? top : top + 8 - top % 8;
                exactOrNot(base, top, exact, lower, upper);
            }
        }
    }

    private static void exactOrNot(int base, int top, boolean exact, int lower, int upper) {
        String what = base + ", " + top;
        Scene scene = scene().grant(2, 0, 512, base, 77).address(3, top - base);
        scene.copy().next(10, 4, 2, 3).step("10 to " + what).register(4, 1, lower, upper, 77, 0, base).check();
        if (exact) {
            scene.copy().next(11, 4, 2, 3).step("11 to " + what).register(4, 1, base, top, 77, 0, base).check();
        } else {
            scene.copy().next(11, 4, 2, 3).raises("11 to " + what, INEXACT);
        }
    }

    private static void nearAddresses() {
        sentence("An address is NEAR if it is not below base - 64 and below top + 64.");
        int[][] bounds = {{200, 300}, {0, 512}, {0, 0}, {512, 512}, {64, 64}, {64, 448}, {1, 511}, {300, 301}};
        for (int[] of : bounds) {
            for (int by = -2; by <= 2; by++) {
                nearOrNot(of[0], of[1], of[0] - 64 + by, by >= 0);
                nearOrNot(of[0], of[1], of[1] + 64 + by, by < 0);
            }
            nearOrNot(of[0], of[1], of[0], true);
            nearOrNot(of[0], of[1], of[1], true);
            for (int far : new int[] {MIN, MIN + 63, MIN + 64, MAX, MAX - 64, -1000, 1000}) {
                nearOrNot(of[0], of[1], far, false);
            }
        }
    }

    private static void nearOrNot(int base, int top, int address, boolean near) {
        String what = base + ", " + top + " to " + address;
        int tag = near ? 1 : 0;
        Scene eight = scene().grant(2, base, top, base, 91).address(3, address).next(8, 4, 2, 3);
        eight.step("8 of " + what).register(4, tag, base, top, 91, 0, address).check();
        for (int imm : new int[] {1, -1, 127, -128}) {
            Scene nine = scene().grant(2, base, top, address - imm, 91).next(9, 4, 2, imm);
            nine.step("9 by " + imm + " of " + what).register(4, tag, base, top, 91, 0, address).check();
        }
    }

    private static void nearOfPc() {
        sentence("Where the address of a valid capability (PC, too) becomes one that is not NEAR, its tag goes");
        for (int shift = -1; shift <= 1; shift++) {
            int base = 200 + shift;
            int top = 280 + shift;
            for (int imm = -30; imm <= 30; imm++) {
                int to = 240 + 4 * imm;
                int tag = to >= base - 64 && to < top + 64 ? 1 : 0;
                Scene scene = scene().poke(240, Checks.op(31, 4, 0, imm), 4).grant(8, base, top, 240, 5);
                scene.step("31 by " + imm + " in " + base).register(4, tag, base, top, 5, 0, to).check();
            }
        }
    }

    private static void nearOfBranches() {
        sentence("Where the address of a valid capability (PC, too) becomes one that is not NEAR, its tag goes");
        for (int shift = -1; shift <= 1; shift++) {
            int base = 200 + shift;
            int top = 280 + shift;
            for (int imm = -30; imm <= 30; imm++) {
                int to = 244 + 4 * imm;
                int tag = to >= base - 64 && to < top + 64 ? 1 : 0;
                for (int code = EQUAL; code <= UNLIKE; code++) {
                    Scene scene = scene().address(2, code == EQUAL ? 6 : 5).address(3, 6);
                    scene.poke(240, Checks.op(code, 2, 3, imm), 4).grant(8, base, top, 240, 5);
                    String what = code + " by " + imm + " in " + base;
                    scene.step(what).register(8, tag, base, top, 5, 0, to).check();
                    Scene then = scene.call(m -> m.run(1));
                    if (tag == 0) {
                        then.raises("behind " + what, TAG);
                    }
                }
            }
        }
    }

    private static void tagGoesAlone() {
        sentence("becomes one that is not NEAR, its tag goes");
        Scene far = scene().grant(2, 200, 300, 363, 255).done(9, 2, 2, 1);
        far.copy().next(MOVE, 4, 2, 0).step("far").register(4, 0, 200, 300, 255, 0, 364).check();
        Outcome back = far.copy().next(9, 2, 2, -1).step("a tag does not come back");
        back.register(2, 0, 200, 300, 255, 0, 363).check();
        Scene number = scene().number(2, 5).address(3, 100000).next(8, 2, 2, 3);
        number.step("a number has no tag that could go").number(2, 100000).check();
        Scene pc = scene().poke(240, Checks.op(EQUAL, 0, 0, 100), 4).grant(8, 200, 280, 240, 5).call(m -> m.run(1));
        pc.raises("PC without tag", TAG);
    }

    private static void tagGoesButForGrant() {
        sentence("its tag goes (but for grant)");
        for (int address : new int[] {135, 136, 363, 364, MIN, MAX}) {
            for (int r = 0; r <= 9; r++) {
                int at = r;
                Outcome due = scene().after("grant " + r + " at " + address, m -> m.grant(at, 200, 300, address, 255));
                due.register(r, 1, 200, 300, 255, 0, address).check();
            }
        }
    }
}
