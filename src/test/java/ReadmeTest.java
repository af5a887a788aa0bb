import java.io.IOException;
import java.nio.file.Files;
import java.nio.file.Path;

/** README.md: its example answers what it says there, and it tells each public member. */
public final class ReadmeTest {
    private static final String[] FACE = {
        "CapMachine()",
        "void grant(int r, int base, int top, int address, int permissions) throws IllegalArgumentException",
        "void poke(int address, int word, int bytes) throws IllegalArgumentException",
        "int run(int n)",
        "int state()",
        "int cause()",
        "int look(int r, int what) throws IllegalArgumentException",
        "int peek(int address) throws IllegalArgumentException",
        "boolean tagged(int p)",
    };

    public static void main(String[] args) throws IOException {
        example();
        everyMemberIsTold(Files.readString(Path.of("README.md")));
        Checks.end();
    }

    private static void example() {
        CapMachine m = new CapMachine();
        m.grant(2, 256, 272, 256, 3);
        m.poke(0, 1 | 3 << 8 | 0 << 16 | 7 << 24, 4);
        m.poke(4, 21 | 3 << 8 | 2 << 16 | 4 << 24, 4);
        m.poke(8, 18 | 4 << 8 | 2 << 16 | 16 << 24, 4);
        Checks.due("m.run(100)", m.run(100), 3);
        Checks.due("m.peek(260)", m.peek(260), 7);
        Checks.due("m.state()", m.state(), 2);
        Checks.due("m.cause()", m.cause(), 4);
        Checks.due("m.look(10, 5)", m.look(10, 5), 8);
    }

    private static void everyMemberIsTold(String readme) {
        for (String member : FACE) {
            Checks.due("README.md tells " + member, readme.contains("- `" + member + "`:\n"), true);
        }
    }
}
