import java.nio.charset.StandardCharsets;

/** Calls that come together again and again. */
final class Hand {
    static final int MAKE = 0, WRITE = 1, APPEND = 2, CUT = 3, READ = 4, REMOVE = 5, RENAME = 6, SWAP = 7, SIZE = 8;
    static final int NEXT = 9;

    /** For each group the nodes 0 to 5, the greatest draw first, as reckoned by hand from the document's formula. */
    private static final String[] ORDER = {"513240", "534120", "135240", "140532", "432501", "053142", "024351", "123045",
        "401532", "043521", "152034", "541302", "315240", "324150", "230415", "540123"};

    private Hand() {
    }

    /** The node of a copy of a group if six nodes are in. */
    static int nodeOf(int g, int r) {
        return ORDER[g].charAt(r) - '0';
    }

    /** The node of a copy of a group if those of set are in. */
    static int nodeOf(int g, int r, int set) {
        int before = 0;
        for (int i = 0; i < 6; i++) {
            int n = nodeOf(g, i);
            if ((set >> n & 1) != 0 && before++ == r) {
                return n;
            }
        }
        return -1;
    }

    /** The last twenty of 2048 bytes come over some that were fed before: more would be too many. */
    static void tape(StripedStore x, byte[] bytes) {
        for (int at = 0; at < bytes.length; at += 20) {
            if (x.count(9) + 20 > 2048 && bytes.length >= 20) {
                x.end(x.count(9) - at + bytes.length - 20);
                at = bytes.length - 20;
            }
            int[] w = new int[5];
            for (int i = 0; i < 20; i++) {
                w[i / 4] = w[i / 4] << 8 | (at + i < bytes.length ? bytes[at + i] & 255 : 0);
            }
            x.feed(w[0], w[1], w[2], w[3], w[4]);
            if (at + 20 > bytes.length) {
                x.end(x.count(9) - (at + 20 - bytes.length));
            }
        }
    }

    static void tape(StripedStore x, String text) {
        tape(x, text.getBytes(StandardCharsets.ISO_8859_1));
    }

    static void name(StripedStore x, int k, String name) {
        x.end(0);
        tape(x, name);
        x.name(k);
    }

    /** An operation on the file with a name, with what is on the tape. */
    static int op(StripedStore x, int kind, String name, int a, int b) {
        name(x, 0, name);
        return x.begin(kind, a, b);
    }

    static int op(StripedStore x, int kind, String name) {
        return op(x, kind, name, 0, 0);
    }

    static int write(StripedStore x, String name, int a, String bytes) {
        name(x, 0, name);
        tape(x, bytes);
        return x.begin(WRITE, a, 0);
    }

    static int append(StripedStore x, String name, String bytes) {
        name(x, 0, name);
        tape(x, bytes);
        return x.begin(APPEND, 0, 0);
    }

    static int pair(StripedStore x, int kind, String name0, String name1) {
        name(x, 0, name0);
        name(x, 1, name1);
        return x.begin(kind, 0, 0);
    }

    /** The answer of one operation, alone up to the next call of settle. */
    static int now(StripedStore x, int operation) {
        x.settle();
        return x.answer(operation);
    }

    static String told(StripedStore x, int operation) {
        StringBuilder text = new StringBuilder();
        for (int i = 0; x.told(operation, i) >= 0; i++) {
            text.append((char) x.told(operation, i));
        }
        return text.toString();
    }

    static String read(StripedStore x, String name, int a, int b) {
        int operation = op(x, READ, name, a, b);
        x.settle();
        return told(x, operation);
    }

    static String times(String text, int n) {
        return text.repeat(n);
    }

    /** Time passes and most messages come, so that what is begun gets done without a call of settle. */
    static void busy(StripedStore x, int ticks) {
        for (int i = 0; i < ticks; i++) {
            x.tick(1);
            x.stir(300, i * 7919 + 1);
        }
    }
}
