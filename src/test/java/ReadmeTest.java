import java.io.IOException;
import java.nio.file.Files;
import java.nio.file.Path;

/** The example of README.md: its calls are made as they stand there, and answer what its comments say. */
public final class ReadmeTest {
    private static final Check CHECK = new Check("ReadmeTest");
    private static String[] lines;
    private static int next;

    public static void main(String[] args) throws IOException {
        String text = Files.readString(Path.of("README.md"));
        int start = text.indexOf("```java\n") + 8;
        lines = text.substring(start, text.indexOf("```", start)).split("\n");
        example();
        CHECK.due("lines", next, lines.length);
        CHECK.end();
    }

    /** The next line of the example has to be this call and to tell this answer. */
    private static void line(String call, int answer) {
        line(call, String.valueOf(answer));
    }

    private static void line(String call, String answer) {
        String[] parts = lines[next].split(" +// ");
        String said = parts[1].split("[:,]")[0];
        CHECK.due(lines[next], parts[0].equals(call + ";"), true);
        CHECK.due(call + " is said to answer " + said + " and answers " + answer, said.equals(answer), true);
        next++;
    }

    private static void example() {
        StripedStore store = new StripedStore(5, 3, 4);
        line("StripedStore store = new StripedStore(5, 3, 4)", "5 nodes");
        line("store.feed(0x6e6f7465, 0, 0, 0, 0)", store.feed(0x6e6f7465, 0, 0, 0, 0));
        line("store.end(4)", store.end(4));
        line("store.name(0)", store.name(0));
        line("store.feed(0x68656c6c, 0x6f000000, 0, 0, 0)", store.feed(0x68656c6c, 0x6f000000, 0, 0, 0));
        line("store.end(5)", store.end(5));
        int write = store.begin(1, 0, 0);
        line("int write = store.begin(1, 0, 0)", write);
        int read = store.begin(4, 0, 100);
        line("int read = store.begin(4, 0, 100)", read);
        line("store.crash(2, 5, 100)", String.valueOf(store.crash(2, 5, 100)));
        line("store.stir(200, 7)", store.stir(200, 7));
        line("store.answer(write)", store.answer(write));
        line("store.settle()", store.settle());
        line("store.answer(write)", store.answer(write));
        line("store.answer(read)", store.answer(read));
        line("store.told(read, 0)", store.told(read, 0));
        line("store.file(0, 0)", store.file(0, 0));
        line("store.where(0, 0, 0)", store.where(0, 0, 0));
        line("store.onDisk(0, 0, 2, 4)", store.onDisk(0, 0, 2, 4));
        line("store.audit()", store.audit());
        line("store.tick(1)", store.tick(1));
        line("store.audit()", store.audit());
    }
}
