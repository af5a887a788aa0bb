/** What the tests that go through the document's sentences share: its names for exceptions, codes and edges. */
abstract class Sentences {
    static final int TAG = 1;
    static final int SEALED = 2;
    static final int PERMISSION = 3;
    static final int BOUNDS = 4;
    static final int ALIGNMENT = 5;
    static final int INEXACT = 6;
    static final int KIND = 7;
    static final int ILLEGAL = 8;

    static final int HALT = 0;
    static final int NUMBER = 1;
    static final int ADD = 2;
    static final int TAKE = 3;
    static final int EQUAL = 4;
    static final int LESS = 5;
    static final int UNLIKE = 6;
    static final int MOVE = 7;
    static final int SEAL = 13;
    static final int UNSEAL = 14;
    static final int ENTRY = 15;
    static final int JUMP = 16;

    static final int MAX = Integer.MAX_VALUE;
    static final int MIN = Integer.MIN_VALUE;

    static Scene scene() {
        return new Scene();
    }

    static void sentence(String words) {
        Checks.sentence(words);
    }

    /** The bytes that codes 17 to 22 load or store. */
    static int bytesOf(int code) {
        return code == 17 || code == 20 ? 1 : code == 18 || code == 21 ? 4 : 8;
    }

    static int packed(int base, int top, int type, int permissions) {
        return base + 1024 * top + 1048576 * type + 16777216 * permissions;
    }
}
