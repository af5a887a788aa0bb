/**
 * A machine whose pointers are capabilities: words with a tag that nobody can forge, with bounds,
 * permissions and a seal. README.md tells how it is used.
 */
public final class CapMachine {
    private static final int GOES_ON = 0;
    private static final int HALTED = 1;
    private static final int STOPPED = 2;

    private static final int NO_EXCEPTION = 0;
    private static final int TAG = 1;
    private static final int SEALED = 2;
    private static final int PERMISSION = 3;
    private static final int BOUNDS = 4;
    private static final int ALIGNMENT = 5;
    private static final int INEXACT = 6;
    private static final int KIND = 7;
    private static final int ILLEGAL = 8;

    private static final int MAY_LOAD = 1;
    private static final int MAY_STORE = 2;
    private static final int MAY_EXECUTE = 4;
    private static final int MAY_LOAD_CAPABILITIES = 8;
    private static final int MAY_STORE_CAPABILITIES = 16;
    private static final int MAY_SEAL = 32;
    private static final int MAY_UNSEAL = 64;
    private static final int ALL_PERMISSIONS = 255;

    private static final int UNSEALED = 0;
    private static final int ENTRY = 1;
    private static final int LAST_TYPE = 15;

    private static final int MEMORY_BYTES = 512;
    private static final int PLACE_BYTES = 8;
    private static final int WORD_BYTES = 4;
    private static final int INSTRUCTION_BYTES = 4;
    private static final int NEAR_BYTES = 64;
    private static final int SMALL_BYTES = 64;
    private static final int MOST_STEPS = 2000;

    private static final int REGISTER_MASK = 7;
    private static final int PC = 8;
    private static final int HANDLER = 9;
    private static final int FAULT = 10;
    private static final int SLOTS = 11;

    private static final int PART_ADDRESS = 5;

    private static final int CODE_HALT = 0;
    private static final int CODE_NUMBER = 1;
    private static final int CODE_ADD = 2;
    private static final int CODE_TAKE = 3;
    private static final int CODE_EQUAL = 4;
    private static final int CODE_LESS = 5;
    private static final int CODE_UNLIKE = 6;
    private static final int CODE_MOVE = 7;
    private static final int CODE_SET_ADDRESS = 8;
    private static final int CODE_ADD_TO_ADDRESS = 9;
    private static final int CODE_SET_BOUNDS = 10;
    private static final int CODE_SET_EXACT_BOUNDS = 11;
    private static final int CODE_KEEP_PERMISSIONS = 12;
    private static final int CODE_SEAL = 13;
    private static final int CODE_UNSEAL = 14;
    private static final int CODE_MAKE_ENTRY = 15;
    private static final int CODE_JUMP = 16;
    private static final int CODE_LOAD_BYTE = 17;
    private static final int CODE_LOAD_WORD = 18;
    private static final int CODE_LOAD_CAPABILITY = 19;
    private static final int CODE_STORE_BYTE = 20;
    private static final int CODE_STORE_WORD = 21;
    private static final int CODE_STORE_CAPABILITY = 22;
    private static final int CODE_FIRST_PART = 23;
    private static final int CODE_LAST_PART = 28;
    private static final int CODE_CLEAR_TAG = 29;
    private static final int CODE_IS_WITHIN = 30;
    private static final int CODE_PC_RELATIVE = 31;
    private static final int CODE_SET_HANDLER = 32;

    private final Capability[] slots;
    private final Capability pc;
    private final Capability handler;
    private final Capability fault;
    private final Capability link;
    private final Memory memory;
    private int state;
    private int cause;

    public CapMachine() {
        slots = new Capability[SLOTS];
        for (int r = 0; r < SLOTS; r++) {
            slots[r] = new Capability();
        }
        pc = slots[PC];
        handler = slots[HANDLER];
        fault = slots[FAULT];
        link = new Capability();
        memory = new Memory();
        pc.becomeGranted(0, MEMORY_BYTES, 0, ALL_PERMISSIONS);
        slots[1].becomeGranted(0, MEMORY_BYTES, 0, ALL_PERMISSIONS);
        state = GOES_ON;
        cause = NO_EXCEPTION;
    }

    public void grant(int r, int base, int top, int address, int permissions) throws IllegalArgumentException {
        boolean slotIsGood = r >= 0 && r <= HANDLER;
        boolean boundsAreGood = base >= 0 && base <= top && top <= MEMORY_BYTES;
        boolean permissionsAreGood = permissions >= 0 && permissions <= ALL_PERMISSIONS;
        if (!slotIsGood || !boundsAreGood || !permissionsAreGood) {
            throw new IllegalArgumentException();
        }
        slots[r].becomeGranted(base, top, address, permissions);
        state = GOES_ON;
    }

    public void poke(int address, int word, int bytes) throws IllegalArgumentException {
        if (bytes < 1 || bytes > WORD_BYTES || address < 0 || address > MEMORY_BYTES - bytes) {
            throw new IllegalArgumentException();
        }
        memory.store(address, word, bytes);
    }

    public int run(int n) {
        int most = Math.min(n, MOST_STEPS);
        int done = 0;
        boolean smooth = true;
        while (done < most && smooth && state == GOES_ON) {
            int exception = step();
            done++;
            if (exception != NO_EXCEPTION) {
                takeException(exception);
                smooth = false;
            }
        }
        return done;
    }

    public int state() {
        return state;
    }

    public int cause() {
        return cause;
    }

    public int look(int r, int what) throws IllegalArgumentException {
        if (r < 0 || r >= SLOTS || what < 0 || what > PART_ADDRESS) {
            throw new IllegalArgumentException();
        }
        return slots[r].part(what);
    }

    public int peek(int address) throws IllegalArgumentException {
        if (address < 0 || address >= MEMORY_BYTES) {
            throw new IllegalArgumentException();
        }
        return memory.byteAt(address);
    }

    public boolean tagged(int p) {
        return p >= 0 && p < MEMORY_BYTES / PLACE_BYTES && memory.tags[p];
    }

    private void takeException(int exception) {
        cause = exception;
        fault.become(pc);
        if (handler.valid) {
            pc.become(handler);
        } else {
            state = STOPPED;
        }
    }

    /** Answers the exception, like the methods that do one instruction: then nothing has changed yet. */
    private int step() {
        int at = pc.address;
        int refusal = pc.refusal(MAY_EXECUTE, at, INSTRUCTION_BYTES);
        if (refusal != NO_EXCEPTION) {
            return refusal;
        }
        int second = memory.byteAt(at + 2);
        int third = memory.byteAt(at + 3);
        Capability a = slots[memory.byteAt(at + 1) & REGISTER_MASK];
        Capability b = slots[second & REGISTER_MASK];
        int code = memory.byteAt(at);
        switch (code) {
            case CODE_HALT:
                state = HALTED;
                return NO_EXCEPTION;
            case CODE_EQUAL:
                return branch(a.address == b.address, (byte) third);
            case CODE_LESS:
                return branch(a.address < b.address, (byte) third);
            case CODE_UNLIKE:
                return branch(a.address != b.address, (byte) third);
            case CODE_JUMP:
                return jump(a, b);
            case CODE_NUMBER:
                a.becomeNumber(256 * second + third);
                return advance(NO_EXCEPTION);
            default:
                return advance(compute(code, a, b, slots[third & REGISTER_MASK], (byte) third));
        }
    }

    private int advance(int exception) {
        if (exception == NO_EXCEPTION) {
            pc.moveTo(pc.address + INSTRUCTION_BYTES);
        }
        return exception;
    }

    private int branch(boolean taken, int imm) {
        int further = taken ? INSTRUCTION_BYTES * imm : 0;
        pc.moveTo(pc.address + INSTRUCTION_BYTES + further);
        return NO_EXCEPTION;
    }

    private int jump(Capability a, Capability b) {
        if (!b.valid) {
            return TAG;
        }
        if (b.type > ENTRY) {
            return SEALED;
        }
        if (!b.permits(MAY_EXECUTE)) {
            return PERMISSION;
        }
        // a may be the register b, and the link is made of the old PC: it waits in a capability of its own.
        link.become(pc);
        link.moveTo(pc.address + INSTRUCTION_BYTES);
        link.type = ENTRY;
        pc.become(b);
        pc.type = UNSEALED;
        a.become(link);
        return NO_EXCEPTION;
    }

    private int compute(int code, Capability a, Capability b, Capability c, int imm) {
        if (code >= CODE_LOAD_BYTE && code <= CODE_STORE_CAPABILITY) {
            return access(code, a, b, (long) b.address + imm);
        }
        if (code >= CODE_FIRST_PART && code <= CODE_LAST_PART) {
            return number(a, b.part(code - CODE_FIRST_PART));
        }
        switch (code) {
            case CODE_ADD:
                return number(a, b.address + c.address);
            case CODE_TAKE:
                return number(a, b.address - c.address);
            case CODE_MOVE:
                return copy(a, b);
            case CODE_SET_ADDRESS:
                return withAddress(a, b, c.address);
            case CODE_ADD_TO_ADDRESS:
                return withAddress(a, b, b.address + imm);
            case CODE_SET_BOUNDS:
                return withBounds(a, b, c.address, false);
            case CODE_SET_EXACT_BOUNDS:
                return withBounds(a, b, c.address, true);
            case CODE_KEEP_PERMISSIONS:
                return withPermissions(a, b, c.address);
            case CODE_SEAL:
                return seal(a, b, c);
            case CODE_UNSEAL:
                return unseal(a, b, c);
            case CODE_MAKE_ENTRY:
                return makeEntry(a, b);
            case CODE_CLEAR_TAG:
                return withoutTag(a, b);
            case CODE_IS_WITHIN:
                return number(a, b.isWithin(c) ? 1 : 0);
            case CODE_PC_RELATIVE:
                // PC is unsealed here, so this can't refuse.
                return withAddress(a, pc, pc.address + INSTRUCTION_BYTES * imm);
            case CODE_SET_HANDLER:
                return setHandler(a);
            default:
                return ILLEGAL;
        }
    }

    private static int number(Capability a, int number) {
        a.becomeNumber(number);
        return NO_EXCEPTION;
    }

    private static int copy(Capability a, Capability b) {
        a.become(b);
        return NO_EXCEPTION;
    }

    private static int withoutTag(Capability a, Capability b) {
        a.become(b);
        a.valid = false;
        return NO_EXCEPTION;
    }

    private static int withAddress(Capability a, Capability b, int address) {
        if (b.valid && b.type != UNSEALED) {
            return SEALED;
        }
        a.become(b);
        a.moveTo(address);
        return NO_EXCEPTION;
    }

    private static int withPermissions(Capability a, Capability b, int mask) {
        if (b.valid && b.type != UNSEALED) {
            return SEALED;
        }
        a.become(b);
        a.permissions = b.permissions & mask;
        return NO_EXCEPTION;
    }

    private static int withBounds(Capability a, Capability b, int length, boolean mustBeExact) {
        if (!b.valid) {
            return TAG;
        }
        if (b.type != UNSEALED) {
            return SEALED;
        }
        long end = (long) b.address + length;
        if (length < 0 || b.address < b.base || end > b.top) {
            return BOUNDS;
        }
        int base = b.address;
        int top = (int) end;
        boolean exact = areExact(base, top);
        if (!exact) {
            base = multipleNotAbove(base);
            top = multipleNotBelow(top);
        }
        if (base < b.base || top > b.top) {
            return BOUNDS;
        }
        if (mustBeExact && !exact) {
            return INEXACT;
        }
        a.become(b);
        a.base = base;
        a.top = top;
        return NO_EXCEPTION;
    }

    private static boolean areExact(int base, int top) {
        boolean areMultiples = multipleNotAbove(base) == base && multipleNotAbove(top) == top;
        return top - base <= SMALL_BYTES || areMultiples;
    }

    private static int multipleNotAbove(int bound) {
        return bound / PLACE_BYTES * PLACE_BYTES;
    }

    private static int multipleNotBelow(int bound) {
        return multipleNotAbove(bound + PLACE_BYTES - 1);
    }

    private static int seal(Capability a, Capability b, Capability c) {
        if (!b.valid || !c.valid) {
            return TAG;
        }
        if (b.type != UNSEALED || c.type != UNSEALED) {
            return SEALED;
        }
        if (!c.permits(MAY_SEAL)) {
            return PERMISSION;
        }
        if (!c.hasAddressInBounds()) {
            return BOUNDS;
        }
        int type = c.address;
        if (type <= ENTRY || type > LAST_TYPE) {
            return KIND;
        }
        a.become(b);
        a.type = type;
        return NO_EXCEPTION;
    }

    private static int unseal(Capability a, Capability b, Capability c) {
        if (!b.valid || !c.valid) {
            return TAG;
        }
        if (b.type <= ENTRY || c.type != UNSEALED) {
            return SEALED;
        }
        if (c.address != b.type) {
            return KIND;
        }
        if (!c.permits(MAY_UNSEAL)) {
            return PERMISSION;
        }
        if (!c.hasAddressInBounds()) {
            return BOUNDS;
        }
        a.become(b);
        a.type = UNSEALED;
        return NO_EXCEPTION;
    }

    private static int makeEntry(Capability a, Capability b) {
        if (!b.valid) {
            return TAG;
        }
        if (b.type != UNSEALED) {
            return SEALED;
        }
        if (!b.permits(MAY_EXECUTE)) {
            return PERMISSION;
        }
        a.become(b);
        a.type = ENTRY;
        return NO_EXCEPTION;
    }

    private int setHandler(Capability a) {
        if (a.valid && a.type == UNSEALED && a.permits(MAY_EXECUTE)) {
            handler.become(a);
        }
        return NO_EXCEPTION;
    }

    /** The address is a long, so that one beyond the ints is seen as out of bounds and does not wrap. */
    private int access(int code, Capability a, Capability b, long address) {
        int refusal = b.refusal(permissionsFor(code, a), address, bytesOf(code));
        if (refusal != NO_EXCEPTION) {
            return refusal;
        }
        int at = (int) address;
        switch (code) {
            case CODE_LOAD_BYTE:
                a.becomeNumber(memory.byteAt(at));
                break;
            case CODE_LOAD_WORD:
                a.becomeNumber(memory.wordAt(at));
                break;
            case CODE_LOAD_CAPABILITY:
                memory.loadCapability(at, a);
                break;
            case CODE_STORE_CAPABILITY:
                memory.storeCapability(at, a);
                break;
            default:
                memory.store(at, a.address, bytesOf(code));
                break;
        }
        return NO_EXCEPTION;
    }

    private static int permissionsFor(int code, Capability a) {
        switch (code) {
            case CODE_LOAD_BYTE:
            case CODE_LOAD_WORD:
                return MAY_LOAD;
            case CODE_LOAD_CAPABILITY:
                return MAY_LOAD | MAY_LOAD_CAPABILITIES;
            case CODE_STORE_CAPABILITY:
                return a.valid ? MAY_STORE | MAY_STORE_CAPABILITIES : MAY_STORE;
            default:
                return MAY_STORE;
        }
    }

    private static int bytesOf(int code) {
        switch (code) {
            case CODE_LOAD_BYTE:
            case CODE_STORE_BYTE:
                return 1;
            case CODE_LOAD_WORD:
            case CODE_STORE_WORD:
                return WORD_BYTES;
            default:
                return PLACE_BYTES;
        }
    }

    /** It is changed in place, for a run of many steps must not make objects. */
    private static final class Capability {
        private boolean valid;
        private int base;
        private int top;
        private int permissions;
        private int type;
        private int address;

        private void becomeNumber(int number) {
            valid = false;
            base = 0;
            top = 0;
            permissions = 0;
            type = UNSEALED;
            address = number;
        }

        private void becomeGranted(int newBase, int newTop, int newAddress, int newPermissions) {
            valid = true;
            base = newBase;
            top = newTop;
            permissions = newPermissions;
            type = UNSEALED;
            address = newAddress;
        }

        private void become(Capability other) {
            valid = other.valid;
            base = other.base;
            top = other.top;
            permissions = other.permissions;
            type = other.type;
            address = other.address;
        }

        private void becomeUnpacked(boolean tag, int newAddress, int packed) {
            valid = tag;
            base = packed & 1023;
            top = (packed >>> 10) & 1023;
            type = (packed >>> 20) & 15;
            permissions = (packed >>> 24) & 255;
            address = newAddress;
        }

        private int packed() {
            return base | (top << 10) | (type << 20) | (permissions << 24);
        }

        private void moveTo(int newAddress) {
            address = newAddress;
            boolean near = newAddress >= base - NEAR_BYTES && newAddress < top + NEAR_BYTES;
            valid = valid && near;
        }

        private int part(int what) {
            switch (what) {
                case 0:
                    return valid ? 1 : 0;
                case 1:
                    return base;
                case 2:
                    return top;
                case 3:
                    return permissions;
                case 4:
                    return type;
                default:
                    return address;
            }
        }

        private boolean permits(int needed) {
            return (permissions & needed) == needed;
        }

        private boolean hasAddressInBounds() {
            return address >= base && address < top;
        }

        private boolean isWithin(Capability other) {
            return valid == other.valid && base >= other.base && top <= other.top && other.permits(permissions);
        }

        private int refusal(int needed, long at, int bytes) {
            if (!valid) {
                return TAG;
            }
            if (type != UNSEALED) {
                return SEALED;
            }
            if (!permits(needed)) {
                return PERMISSION;
            }
            if (at < base || at + bytes > top || at + bytes > MEMORY_BYTES) {
                return BOUNDS;
            }
            // A multiple shows in the low bits, for bytes is 1, 4 or 8.
            return (at & (bytes - 1)) == 0 ? NO_EXCEPTION : ALIGNMENT;
        }
    }

    /** The bytes and the tags of their places; who calls has looked at the address. */
    private static final class Memory {
        private final byte[] bytes = new byte[MEMORY_BYTES];
        private final boolean[] tags = new boolean[MEMORY_BYTES / PLACE_BYTES];

        private int byteAt(int at) {
            return bytes[at] & 255;
        }

        private int wordAt(int at) {
            return byteAt(at) | (byteAt(at + 1) << 8) | (byteAt(at + 2) << 16) | (byteAt(at + 3) << 24);
        }

        private void store(int at, int word, int count) {
            for (int i = 0; i < count; i++) {
                bytes[at + i] = (byte) (word >>> (8 * i));
                tags[(at + i) / PLACE_BYTES] = false;
            }
        }

        private void loadCapability(int at, Capability to) {
            to.becomeUnpacked(tags[at / PLACE_BYTES], wordAt(at), wordAt(at + WORD_BYTES));
        }

        private void storeCapability(int at, Capability from) {
            store(at, from.address, WORD_BYTES);
            store(at + WORD_BYTES, from.packed(), WORD_BYTES);
            tags[at / PLACE_BYTES] = from.valid;
        }
    }
}
