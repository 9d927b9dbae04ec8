/** Promises 1 to 5: a new object, feed, end, name, begin. */
public final class TapeAndNamesTest {
    private static final Check CHECK = new Check("TapeAndNamesTest");

    public static void main(String[] args) {
        newObject();
        clamped();
        feedAndEnd();
        names();
        beginRefuses();
        beginCounts();
        whatAnOperationHas();
        CHECK.end();
    }

    private static void newObject() {
        StripedStore x = new StripedStore(5, 3, 4);
        int[] due = {0, 0, 0, 0, 0, 1, 5, 31, 0, 0, 0};
        for (int what = 0; what < due.length; what++) {
            CHECK.due("count " + what + " of a new object", x.count(what), due[what]);
        }
        CHECK.due("audit", x.audit(), StripedStore.BUSY);
        CHECK.due("settle", x.settle(), 0);
        CHECK.due("audit", x.audit(), 0);
        CHECK.due("epoch", x.count(5), 2);
    }

    private static void clamped() {
        int[][] asked = {{3, 2, 1}, {2, 1, 0}, {-5, -5, -5}, {6, 3, 16}, {7, 4, 17},
            {Integer.MAX_VALUE, Integer.MAX_VALUE, Integer.MAX_VALUE}, {Integer.MIN_VALUE, 3, 16}};
        int[][] due = {{3, 2, 1}, {3, 2, 1}, {3, 2, 1}, {6, 3, 16}, {6, 3, 16}, {6, 3, 16}, {3, 3, 16}};
        for (int i = 0; i < asked.length; i++) {
            StripedStore x = new StripedStore(asked[i][0], asked[i][1], asked[i][2]);
            CHECK.due("nodes", x.count(6), due[i][0]);
            Hand.now(x, Hand.write(x, "file", 0, Hand.times("b", 2000)));
            PlainStore plain = new PlainStore(due[i][0], due[i][1], due[i][2]);
            plain.feed(1, 2, 3, 4, 5);
            plain.name(0);
            for (int f = 0; f < 100; f++) {
                plain.feed(f, f, f, f, f);
            }
            plain.begin(1, 0, 0);
            plain.settle();
            for (int s = 0; s < 6; s++) {
                for (int r = 0; r < 4; r++) {
                    CHECK.due("where " + s + " " + r, x.where(0, s, r), plain.where(0, s, r));
                }
            }
        }
    }

    private static void feedAndEnd() {
        StripedStore x = new StripedStore(3, 2, 1);
        CHECK.due("end 0 of an empty tape", x.end(0), 0);
        CHECK.due("end 1 of an empty tape", x.end(1), StripedStore.REFUSED);
        for (int i = 1; i <= 102; i++) {
            CHECK.due("feed", x.feed(0x01020304, 0x05060708, 0x090a0b0c, 0x0d0e0f10, 0x111213ff), 20 * i);
        }
        CHECK.due("feed beyond 2048", x.feed(0, 0, 0, 0, 0), StripedStore.FULL);
        CHECK.due("tape", x.count(9), 2040);
        CHECK.due("end", x.end(2041), StripedStore.REFUSED);
        CHECK.due("end", x.end(-1), StripedStore.REFUSED);
        CHECK.due("end", x.end(2029), 2029);
        CHECK.due("feed", x.feed(0, 0, 0, 0, 0), StripedStore.FULL);
        CHECK.due("end", x.end(2028), 2028);
        CHECK.due("feed up to 2048", x.feed(-1, -2, -3, -4, -5), 2048);
        CHECK.due("end", x.end(2048), 2048);
        CHECK.due("feed", x.feed(0, 0, 0, 0, 0), StripedStore.FULL);
        CHECK.due("end", x.end(23), 23);
        CHECK.due("feed behind 23", x.feed(0xa1b2c3d4, 0, 0, 0, 0), 43);
        x.end(27);
        CHECK.due("name", x.name(0), 27);
        x.begin(Hand.MAKE, 0, 0);
        int next = x.begin(Hand.NEXT, 0, 0);
        x.name(0);
        int first = x.begin(Hand.NEXT, 0, 0);
        x.settle();
        CHECK.due("no greater name", x.answer(next), StripedStore.NONE);
        int[] due = {1, 2, 3, 4, 5, 6, 7, 8, 9, 10, 11, 12, 13, 14, 15, 16, 17, 18, 19, 255, 1, 2, 3, 161, 178, 195, 212};
        CHECK.due("length", x.answer(first), due.length);
        for (int i = 0; i < due.length; i++) {
            CHECK.due("byte " + i, x.told(first, i), due[i]);
        }
    }

    private static void names() {
        StripedStore x = new StripedStore(3, 2, 1);
        CHECK.due("an empty name", x.name(0), 0);
        Hand.tape(x, Hand.times("n", 201));
        CHECK.due("name of 201 bytes", x.name(0), StripedStore.REFUSED);
        CHECK.due("tape as before", x.count(9), 201);
        CHECK.due("end", x.end(200), 200);
        CHECK.due("name 2", x.name(2), StripedStore.REFUSED);
        CHECK.due("name -1", x.name(-1), StripedStore.REFUSED);
        CHECK.due("tape as before", x.count(9), 200);
        CHECK.due("name of 200 bytes", x.name(0), 200);
        CHECK.due("tape", x.count(9), 0);
        int made = x.begin(Hand.MAKE, 0, 0);
        x.settle();
        CHECK.due("made", x.answer(made), 0);
        CHECK.due("length of its name", x.file(0, 2), 200);
        CHECK.due("calm with feed, end and name", x.count(10), 1);
    }

    private static void beginRefuses() {
        StripedStore x = new StripedStore(4, 2, 2);
        for (int kind = 0; kind < 9; kind++) {
            CHECK.due("begin " + kind + " without names", x.begin(kind, 0, 0), StripedStore.REFUSED);
        }
        Hand.name(x, 0, "a");
        x.settle();
        int[][] wrong = {{-1, 0, 0}, {10, 0, 0}, {Integer.MAX_VALUE, 0, 0}, {Integer.MIN_VALUE, 0, 0}, {6, 0, 0},
            {7, 0, 0}, {1, -1, 0}, {1, 8193, 0}, {3, -1, 0}, {3, 8193, 0}, {4, -1, 0}, {4, 8193, 0}, {4, 0, -1},
            {4, 0, 2049}, {4, Integer.MIN_VALUE, Integer.MAX_VALUE}};
        for (int[] w : wrong) {
            CHECK.due("begin " + w[0] + " " + w[1] + " " + w[2], x.begin(w[0], w[1], w[2]), StripedStore.REFUSED);
        }
        CHECK.due("still calm", x.count(10), 1);
        CHECK.due("operations", x.count(3), 0);
        int[][] right = {{0, -1, -1}, {1, 8192, -1}, {2, -1, 9999}, {3, 8192, -1}, {4, 8192, 2048}, {5, -1, -1},
            {8, 9999, -1}, {9, -1, -1}};
        for (int i = 0; i < right.length; i++) {
            CHECK.due("begin " + right[i][0], x.begin(right[i][0], right[i][1], right[i][2]), i);
        }
        Hand.name(x, 1, "b");
        CHECK.due("begin 6", x.begin(6, -1, -1), 8);
        CHECK.due("begin 7", x.begin(7, 9999, -1), 9);
        x.name(0);
        CHECK.due("begin 9 with an empty name", x.begin(9, 0, 0), 10);
        CHECK.due("begin 8 with an empty name", x.begin(8, 0, 0), StripedStore.REFUSED);
    }

    private static void beginCounts() {
        StripedStore x = new StripedStore(3, 3, 1);
        Hand.name(x, 0, "a");
        for (int i = 0; i < 12; i++) {
            CHECK.due("begin", x.begin(Hand.SIZE, 0, 0), i);
            CHECK.due("without an answer", x.count(4), i + 1);
        }
        Hand.tape(x, "tape");
        CHECK.due("the 13th", x.begin(Hand.WRITE, 0, 0), StripedStore.FULL);
        CHECK.due("tape as before", x.count(9), 4);
        CHECK.due("refused first", x.begin(Hand.WRITE, 9000, 0), StripedStore.REFUSED);
        Hand.busy(x, 30);
        CHECK.due("done, but not told", x.begin(Hand.SIZE, 0, 0), StripedStore.FULL);
        CHECK.due("settle", x.settle(), 12);
        CHECK.due("begin", x.begin(Hand.WRITE, 0, 0), 12);
        CHECK.due("operations", x.count(3), 13);
        CHECK.due("not calm", x.count(10), 0);
    }

    private static void whatAnOperationHas() {
        StripedStore x = new StripedStore(3, 2, 5);
        Hand.name(x, 0, "one");
        Hand.tape(x, "first");
        x.begin(Hand.MAKE, 0, 0);
        CHECK.due("tape of a MAKE stays", x.count(9), 5);
        x.begin(Hand.WRITE, 0, 0);
        CHECK.due("tape of a WRITE goes", x.count(9), 0);
        Hand.tape(x, "more");
        x.begin(Hand.APPEND, 0, 0);
        CHECK.due("tape of an APPEND goes", x.count(9), 0);
        Hand.name(x, 0, "two");
        Hand.tape(x, "other");
        x.begin(Hand.WRITE, 0, 0);
        x.settle();
        CHECK.due("one", Hand.read(x, "one", 0, 99).equals("firstmore"), true);
        CHECK.due("two", Hand.read(x, "two", 0, 99).equals("other"), true);
    }
}
