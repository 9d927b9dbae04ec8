/** The ten OPERATIONS and their ANSWERS; promises 16 and 17: answer, told. */
public final class OperationsTest {
    private static final Check CHECK = new Check("OperationsTest");

    public static void main(String[] args) {
        makes();
        writes();
        appends();
        cuts();
        reads();
        removes();
        renames();
        swaps();
        nexts();
        fullOfFiles();
        fullOfBytes();
        oneBehindTheOther();
        answers();
        tolds();
        CHECK.end();
    }

    private static StripedStore store() {
        StripedStore x = new StripedStore(4, 2, 5);
        x.settle();
        return x;
    }

    private static void is(String what, StripedStore x, String name, String bytes) {
        CHECK.due(what + " " + name, Hand.read(x, name, 0, 2048).equals(bytes), true);
    }

    private static void makes() {
        StripedStore x = store();
        CHECK.due("make", Hand.now(x, Hand.op(x, Hand.MAKE, "a")), 0);
        CHECK.due("make again", Hand.now(x, Hand.op(x, Hand.MAKE, "a")), StripedStore.EXISTS);
        CHECK.due("size", Hand.now(x, Hand.op(x, Hand.SIZE, "a")), 0);
        CHECK.due("size of none", Hand.now(x, Hand.op(x, Hand.SIZE, "b")), StripedStore.NONE);
    }

    private static void writes() {
        StripedStore x = store();
        CHECK.due("write makes", Hand.now(x, Hand.write(x, "a", 3, "xyz")), 3);
        is("written", x, "a", "\0\0\0xyz");
        CHECK.due("write within", Hand.now(x, Hand.write(x, "a", 1, "AB")), 2);
        is("written", x, "a", "\0AB" + "xyz");
        CHECK.due("write over the end", Hand.now(x, Hand.write(x, "a", 5, "123")), 3);
        is("written", x, "a", "\0ABxy123");
        CHECK.due("write nothing far behind", Hand.now(x, Hand.write(x, "a", 8192, "")), 0);
        CHECK.due("no longer", Hand.now(x, Hand.op(x, Hand.SIZE, "a")), 8);
        CHECK.due("write nothing makes", Hand.now(x, Hand.write(x, "b", 8192, "")), 0);
        CHECK.due("no bytes", Hand.now(x, Hand.op(x, Hand.SIZE, "b")), 0);
        CHECK.due("write the last byte", Hand.now(x, Hand.write(x, "b", 8191, "z")), 1);
        CHECK.due("8192", Hand.now(x, Hand.op(x, Hand.SIZE, "b")), 8192);
        CHECK.due("only its stripe is laid", x.file(1, 3), 1);
        CHECK.due("write beyond", Hand.now(x, Hand.write(x, "b", 8191, "zz")), StripedStore.FULL);
        CHECK.due("write beyond makes nothing", Hand.now(x, Hand.write(x, "c", 8192, "z")), StripedStore.FULL);
        CHECK.due("files", x.count(0), 2);
    }

    private static void appends() {
        StripedStore x = store();
        CHECK.due("append makes", Hand.now(x, Hand.append(x, "a", "one")), 3);
        CHECK.due("append", Hand.now(x, Hand.append(x, "a", "two")), 3);
        is("appended", x, "a", "onetwo");
        CHECK.due("append nothing", Hand.now(x, Hand.append(x, "a", "")), 0);
        Hand.op(x, Hand.CUT, "a", 8190, 0);
        CHECK.due("append up to 8192", Hand.now(x, Hand.append(x, "a", "yz")), 2);
        CHECK.due("append beyond", Hand.now(x, Hand.append(x, "a", "!")), StripedStore.FULL);
        CHECK.due("append nothing to a full one", Hand.now(x, Hand.append(x, "a", "")), 0);
        CHECK.due("append nothing makes", Hand.now(x, Hand.append(x, "b", "")), 0);
        CHECK.due("files", x.count(0), 2);
    }

    private static void cuts() {
        StripedStore x = store();
        CHECK.due("cut none", Hand.now(x, Hand.op(x, Hand.CUT, "a", 5, 0)), StripedStore.NONE);
        Hand.write(x, "a", 0, Hand.times("c", 1000));
        CHECK.due("cut", Hand.now(x, Hand.op(x, Hand.CUT, "a", 900, 0)), 1000);
        CHECK.due("laid", x.file(0, 3), 3);
        CHECK.due("cut at a stripe's end", Hand.now(x, Hand.op(x, Hand.CUT, "a", 896, 0)), 900);
        CHECK.due("laid", x.file(0, 3), 2);
        CHECK.due("cut", Hand.now(x, Hand.op(x, Hand.CUT, "a", 449, 0)), 896);
        CHECK.due("longer", Hand.now(x, Hand.op(x, Hand.CUT, "a", 1400, 0)), 449);
        CHECK.due("laid", x.file(0, 3), 2);
        CHECK.due("what was cut is 0", Hand.read(x, "a", 447, 4).equals("cc\0\0"), true);
        CHECK.due("and on the disk", x.onDisk(0, 1, 1, 1), 0);
        CHECK.due("cut to nothing", Hand.now(x, Hand.op(x, Hand.CUT, "a", 0, 0)), 1400);
        CHECK.due("laid", x.file(0, 3), 0);
        CHECK.due("cut to the same", Hand.now(x, Hand.op(x, Hand.CUT, "a", 0, 0)), 0);
        Hand.write(x, "a", 100, "w");
        CHECK.due("a stripe stays laid without what was written", Hand.now(x, Hand.op(x, Hand.CUT, "a", 50, 0)), 101);
        CHECK.due("laid", x.file(0, 3), 1);
        CHECK.due("its bytes", x.onDisk(0, 0, 0, 49), 0);
        CHECK.due("no more", x.onDisk(0, 0, 0, 50), StripedStore.NONE);
        CHECK.due("to the greatest length", Hand.now(x, Hand.op(x, Hand.CUT, "a", 8192, 0)), 50);
    }

    private static void reads() {
        StripedStore x = store();
        CHECK.due("read none", Hand.now(x, Hand.op(x, Hand.READ, "a", 0, 5)), StripedStore.NONE);
        Hand.write(x, "a", 446, "wxyz");
        CHECK.due("over a stripe's end", Hand.read(x, "a", 445, 4).equals("\0wxy"), true);
        CHECK.due("up to the end", Hand.now(x, Hand.op(x, Hand.READ, "a", 448, 2048)), 2);
        CHECK.due("at the end", Hand.now(x, Hand.op(x, Hand.READ, "a", 450, 2048)), 0);
        CHECK.due("behind the end", Hand.now(x, Hand.op(x, Hand.READ, "a", 8192, 2048)), 0);
        CHECK.due("no bytes", Hand.now(x, Hand.op(x, Hand.READ, "a", 0, 0)), 0);
        Hand.write(x, "a", 3000, "end");
        CHECK.due("what was never written", Hand.read(x, "a", 450, 2048).equals(Hand.times("\0", 2048)), true);
        CHECK.due("2048 over six stripes", Hand.read(x, "a", 447, 2048).equals("xyz" + Hand.times("\0", 2045)), true);
    }

    private static void removes() {
        StripedStore x = store();
        CHECK.due("remove none", Hand.now(x, Hand.op(x, Hand.REMOVE, "a")), StripedStore.NONE);
        Hand.write(x, "a", 0, "seven b");
        CHECK.due("remove", Hand.now(x, Hand.op(x, Hand.REMOVE, "a")), 7);
        CHECK.due("size", Hand.now(x, Hand.op(x, Hand.SIZE, "a")), StripedStore.NONE);
        int again = Hand.op(x, Hand.MAKE, "a");
        x.settle();
        CHECK.due("a new file", x.file(0, 1), again);
        CHECK.due("without bytes", x.file(0, 0), 0);
    }

    private static void renames() {
        StripedStore x = store();
        CHECK.due("rename none", Hand.now(x, Hand.pair(x, Hand.RENAME, "a", "b")), StripedStore.NONE);
        CHECK.due("rename none to itself", Hand.now(x, Hand.pair(x, Hand.RENAME, "a", "a")), StripedStore.NONE);
        int id = Hand.write(x, "a", 0, "bytes of a");
        CHECK.due("rename", Hand.now(x, Hand.pair(x, Hand.RENAME, "a", "bb")), 0);
        CHECK.due("its id", x.file(0, 1), id);
        CHECK.due("its name", x.file(0, 2), 2);
        is("renamed", x, "bb", "bytes of a");
        CHECK.due("to itself", Hand.now(x, Hand.pair(x, Hand.RENAME, "bb", "bb")), 0);
        Hand.write(x, "c", 0, Hand.times("bytes of c", 100));
        CHECK.due("onto another", Hand.now(x, Hand.pair(x, Hand.RENAME, "bb", "c")), 1);
        is("renamed", x, "c", "bytes of a");
        CHECK.due("files", x.count(0), 1);
        CHECK.due("bytes", x.count(1), 10);
        CHECK.due("laid", x.count(2), 1);
        CHECK.due("audit", x.audit(), 0);
    }

    private static void swaps() {
        StripedStore x = store();
        CHECK.due("swap none", Hand.now(x, Hand.pair(x, Hand.SWAP, "a", "b")), StripedStore.NONE);
        int first = Hand.write(x, "a", 0, "bytes of a");
        CHECK.due("swap one", Hand.now(x, Hand.pair(x, Hand.SWAP, "a", "b")), StripedStore.NONE);
        CHECK.due("swap one", Hand.now(x, Hand.pair(x, Hand.SWAP, "b", "a")), StripedStore.NONE);
        CHECK.due("swap with itself", Hand.now(x, Hand.pair(x, Hand.SWAP, "a", "a")), 0);
        int second = Hand.write(x, "b", 0, "bytes of b");
        CHECK.due("swap", Hand.now(x, Hand.pair(x, Hand.SWAP, "a", "b")), 0);
        CHECK.due("id", x.file(0, 1), second);
        CHECK.due("id", x.file(1, 1), first);
        is("swapped", x, "a", "bytes of b");
        is("swapped", x, "b", "bytes of a");
    }

    private static void nexts() {
        StripedStore x = store();
        x.name(0);
        CHECK.due("next of nothing", Hand.now(x, x.begin(Hand.NEXT, 0, 0)), StripedStore.NONE);
        String[] names = {"\0", "\0\0", "\1", "a", "a\0", "a\0\0b", "aa", "abcd", "abcde", "b", "\177", "\200"};
        for (int i = names.length - 1; i >= 0; i--) {
            Hand.op(x, Hand.MAKE, names[i]);
        }
        x.settle();
        String name = "";
        for (String next : names) {
            Hand.name(x, 0, name);
            int operation = x.begin(Hand.NEXT, 0, 0);
            CHECK.due("length", Hand.now(x, operation), next.length());
            CHECK.due("name", Hand.told(x, operation).equals(next), true);
            name = next;
        }
        CHECK.due("behind the last", Hand.now(x, Hand.op(x, Hand.NEXT, "\200")), StripedStore.NONE);
        int between = Hand.op(x, Hand.NEXT, "a\0\0");
        x.settle();
        CHECK.due("of a name that is not there", Hand.told(x, between).equals("a\0\0b"), true);
        String longest = Hand.times("\377", 200);
        Hand.op(x, Hand.MAKE, longest);
        CHECK.due("200 bytes", Hand.now(x, Hand.op(x, Hand.NEXT, Hand.times("\377", 199))), 200);
    }

    private static void fullOfFiles() {
        StripedStore x = store();
        for (int i = 0; i < 48; i++) {
            Hand.op(x, Hand.MAKE, "file " + i);
            if (i % 12 == 11) {
                x.settle();
            }
        }
        CHECK.due("files", x.count(0), 48);
        CHECK.due("make the 49th", Hand.now(x, Hand.op(x, Hand.MAKE, "more")), StripedStore.FULL);
        CHECK.due("make one that exists", Hand.now(x, Hand.op(x, Hand.MAKE, "file 7")), StripedStore.EXISTS);
        CHECK.due("write the 49th", Hand.now(x, Hand.write(x, "more", 0, "x")), StripedStore.FULL);
        CHECK.due("append to the 49th", Hand.now(x, Hand.append(x, "more", "")), StripedStore.FULL);
        CHECK.due("write", Hand.now(x, Hand.write(x, "file 7", 0, "x")), 1);
        CHECK.due("rename", Hand.now(x, Hand.pair(x, Hand.RENAME, "file 7", "more")), 0);
        Hand.op(x, Hand.REMOVE, "file 9");
        CHECK.due("make the 48th", Hand.now(x, Hand.op(x, Hand.MAKE, "again")), 0);
        CHECK.due("files", x.count(0), 48);
        CHECK.due("audit", x.audit(), 0);
    }

    private static void fullOfBytes() {
        StripedStore x = store();
        for (int i = 0; i < 4; i++) {
            Hand.op(x, Hand.MAKE, "f" + i);
            Hand.op(x, Hand.CUT, "f" + i, 8192, 0);
        }
        x.settle();
        CHECK.due("bytes", x.count(1), 32768);
        CHECK.due("append", Hand.now(x, Hand.append(x, "g", "x")), StripedStore.FULL);
        CHECK.due("not made", x.count(0), 4);
        CHECK.due("make", Hand.now(x, Hand.op(x, Hand.MAKE, "g")), 0);
        CHECK.due("cut", Hand.now(x, Hand.op(x, Hand.CUT, "g", 1, 0)), StripedStore.FULL);
        CHECK.due("write within", Hand.now(x, Hand.write(x, "f1", 8191, "x")), 1);
        CHECK.due("cut", Hand.now(x, Hand.op(x, Hand.CUT, "f0", 8190, 0)), 8192);
        CHECK.due("write three", Hand.now(x, Hand.write(x, "g", 0, "xyz")), StripedStore.FULL);
        CHECK.due("write two", Hand.now(x, Hand.write(x, "g", 0, "xy")), 2);
        CHECK.due("one behind", Hand.now(x, Hand.write(x, "g", 1, "zz")), StripedStore.FULL);
        CHECK.due("bytes", x.count(1), 32768);
        CHECK.due("nothing written", Hand.read(x, "g", 0, 9).equals("xy"), true);
    }

    private static void oneBehindTheOther() {
        StripedStore x = new StripedStore(5, 3, 16);
        int[] ops = {Hand.append(x, "a", "1"), Hand.append(x, "a", "2"), Hand.op(x, Hand.READ, "a", 0, 9),
            Hand.pair(x, Hand.RENAME, "a", "b"), Hand.op(x, Hand.SIZE, "a"), Hand.append(x, "a", "3"),
            Hand.pair(x, Hand.SWAP, "a", "b"), Hand.op(x, Hand.READ, "a", 0, 9), Hand.op(x, Hand.REMOVE, "b"),
            Hand.op(x, Hand.READ, "b", 0, 9), Hand.op(x, Hand.MAKE, "b"), Hand.op(x, Hand.MAKE, "b")};
        int[] due = {1, 1, 2, 0, StripedStore.NONE, 1, 0, 2, 1, StripedStore.NONE, 0, StripedStore.EXISTS};
        Hand.busy(x, 7);
        x.crash(1, 3, 90);
        Hand.busy(x, 7);
        x.settle();
        for (int i = 0; i < ops.length; i++) {
            CHECK.due("number", ops[i], i);
            CHECK.due("answer " + i, x.answer(i), due[i]);
        }
        CHECK.due("told", Hand.told(x, 2).equals("12"), true);
        CHECK.due("told", Hand.told(x, 7).equals("12"), true);
    }

    private static void answers() {
        StripedStore x = store();
        CHECK.due("answer", x.answer(0), StripedStore.REFUSED);
        CHECK.due("answer", x.answer(-1), StripedStore.REFUSED);
        Hand.op(x, Hand.MAKE, "a");
        CHECK.due("answer", x.answer(0), StripedStore.PENDING);
        CHECK.due("answer", x.answer(1), StripedStore.REFUSED);
        Hand.busy(x, 30);
        CHECK.due("heard", Inside.heard(x), 1);
        CHECK.due("answer", x.answer(0), StripedStore.PENDING);
        x.settle();
        CHECK.due("answer", x.answer(0), 0);
        x.settle();
        Hand.op(x, Hand.SIZE, "b");
        CHECK.due("an answer stays", x.answer(0), 0);
        CHECK.due("answer", x.answer(1), StripedStore.PENDING);
        CHECK.due("answer", x.answer(Integer.MIN_VALUE), StripedStore.REFUSED);
        CHECK.due("answer", x.answer(Integer.MAX_VALUE), StripedStore.REFUSED);
    }

    private static void tolds() {
        StripedStore x = store();
        int write = Hand.write(x, "a", 0, "\0\177\200\377");
        int read = Hand.op(x, Hand.READ, "a", 0, 9);
        Hand.name(x, 0, "A");
        int next = x.begin(Hand.NEXT, 0, 0);
        int size = Hand.op(x, Hand.SIZE, "a");
        int none = Hand.op(x, Hand.READ, "b", 0, 9);
        Hand.busy(x, 60);
        CHECK.due("told before settle", x.told(read, 0), StripedStore.NONE);
        x.settle();
        int[] bytes = {0, 127, 128, 255};
        for (int i = 0; i < 4; i++) {
            CHECK.due("told", x.told(read, i), bytes[i]);
        }
        for (int i : new int[] {4, -1, 2048, Integer.MIN_VALUE, Integer.MAX_VALUE}) {
            CHECK.due("told " + i, x.told(read, i), StripedStore.NONE);
        }
        CHECK.due("told by next", x.told(next, 0), 'a');
        CHECK.due("told by next", x.told(next, 1), StripedStore.NONE);
        for (int operation : new int[] {write, size, none, -1, 5, Integer.MIN_VALUE, Integer.MAX_VALUE}) {
            CHECK.due("told of " + operation, x.told(operation, 0), StripedStore.NONE);
        }
        for (int i = 0; i < 12; i++) {
            Hand.op(x, Hand.READ, "a", i % 4, 1);
        }
        Hand.busy(x, 60);
        CHECK.due("told until the next settle", x.told(read, 3), 255);
        CHECK.due("told until the next settle", x.told(next, 0), 'a');
        x.settle();
        CHECK.due("told after the next settle", x.told(read, 3), StripedStore.NONE);
        for (int i = 0; i < 12; i++) {
            CHECK.due("told", x.told(5 + i, 0), bytes[i % 4]);
        }
        x.settle();
        CHECK.due("told after a settle without any", x.told(16, 0), StripedStore.NONE);
        CHECK.due("but answered", x.answer(16), 1);
    }
}
