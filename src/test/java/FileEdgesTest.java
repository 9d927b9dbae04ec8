import java.lang.reflect.Method;

/** The boundary cases of the terms: FILES, STRIPES and the ten OPERATIONS, one test for each sentence. */
public final class FileEdgesTest {
    private static final Check CHECK = new Check("FileEdgesTest");
    private static final int NONE = StripedStore.NONE, EXISTS = StripedStore.EXISTS, FULL = StripedStore.FULL;

    public static void main(String[] args) {
        makeOfOneThatIsThere();
        makeUpTo48();
        existsIsToldAlsoWith48();
        writeMakesAFile();
        writeOfTheFirstAndTheLastPlace();
        writeUpTo8192();
        writeOf2048Bytes();
        writeBehindTheEndLeavesZeros();
        writeWithinMakesItNoLonger();
        writeOfNothing();
        writeOfThe49th();
        writeThatIsFullMakesNothing();
        allFilesUpTo32768();
        bytesThatGoMakeRoom();
        appendMakesAFile();
        appendUpTo8192();
        appendOfNothing();
        appendOfThe49th();
        cutOfNone();
        cutShorterAndLonger();
        cutToTheSame();
        cutUpTo32768InAll();
        cutOffBytesDoNotComeBack();
        readAsFarAsThereAre();
        readOfWhatIsNotLaid();
        readOfNone();
        removeOfAnEmptyOne();
        removeOfNone();
        removedAndMadeAgain();
        renameToOneThatIsThere();
        renameToOneThatIsNot();
        renameToTheSame();
        renameOfNone();
        renameWith48();
        swapOfTwo();
        swapWithTheSame();
        swapWithoutOneOfThem();
        sizes();
        nextOfAnEmptyName();
        nextIsGreaterNotTheSame();
        nextByteByByteWithoutSign();
        nextWithOneThatIsTheBeginning();
        nextBehindTheLast();
        namesOf1To200Bytes();
        stripesOf448Bytes();
        theLastStripe();
        stripesAreLaidByWrites();
        stripesAreNotLaidByCuts();
        stripesGoWithTheirLastByte();
        stripesStayWithAByte();
        stripesLaidAgain();
        drawsAreIntsThatWrap();
        noTwoDrawsAreTheSame();
        theGreatestDrawsOfEveryGroup();
        groupsOfStripes();
        operationsOneBehindTheOther();
        operationsHaveTheNamesOfThen();
        theMostOperations();
        callsBehindThe512th();
        CHECK.end();
    }

    private static StripedStore store() {
        StripedStore x = new StripedStore(4, 2, 5);
        x.settle();
        return x;
    }

    private static void is(String what, StripedStore x, String name, String bytes) {
        CHECK.due(what, Hand.read(x, name, 0, 2048).equals(bytes), true);
    }

    private static int size(StripedStore x, String name) {
        return Hand.now(x, Hand.op(x, Hand.SIZE, name));
    }

    private static StripedStore with48() {
        StripedStore x = store();
        for (int i = 0; i < 48; i++) {
            CHECK.due("number", Hand.op(x, Hand.MAKE, "file " + i), i);
            if (i % 12 == 11) {
                x.settle();
            }
        }
        CHECK.due("files", x.count(0), 48);
        return x;
    }

    /** Four files of 8192 bytes, of which none was written. */
    private static StripedStore with32768() {
        StripedStore x = store();
        for (int i = 0; i < 4; i++) {
            Hand.op(x, Hand.MAKE, "f" + i);
            Hand.op(x, Hand.CUT, "f" + i, 8192, 0);
        }
        x.settle();
        CHECK.due("bytes", x.count(1), 32768);
        return x;
    }

    private static void makeOfOneThatIsThere() {
        StripedStore x = store();
        CHECK.due("make", Hand.now(x, Hand.op(x, Hand.MAKE, "a")), 0);
        Hand.append(x, "a", "bytes");
        CHECK.due("make again", Hand.now(x, Hand.op(x, Hand.MAKE, "a")), EXISTS);
        is("it stays", x, "a", "bytes");
        CHECK.due("files", x.count(0), 1);
    }

    private static void makeUpTo48() {
        StripedStore x = with48();
        for (int i = 0; i < 48; i++) {
            CHECK.due("answer", x.answer(i), 0);
        }
        CHECK.due("the 49th", Hand.now(x, Hand.op(x, Hand.MAKE, "more")), FULL);
        CHECK.due("files", x.count(0), 48);
        CHECK.due("it is not there", size(x, "more"), NONE);
        Hand.op(x, Hand.REMOVE, "file 0");
        CHECK.due("the 48th", Hand.now(x, Hand.op(x, Hand.MAKE, "more")), 0);
        CHECK.due("the 49th", Hand.now(x, Hand.op(x, Hand.MAKE, "file 0")), FULL);
        CHECK.due("audit", x.audit(), 0);
    }

    private static void existsIsToldAlsoWith48() {
        StripedStore x = with48();
        CHECK.due("make", Hand.now(x, Hand.op(x, Hand.MAKE, "file 47")), EXISTS);
    }

    private static void writeMakesAFile() {
        StripedStore x = store();
        int write = Hand.write(x, "a", 0, "x");
        CHECK.due("write", Hand.now(x, write), 1);
        CHECK.due("its id", x.file(0, 1), write);
        Hand.write(x, "a", 0, "y");
        x.settle();
        CHECK.due("its id", x.file(0, 1), write);
        CHECK.due("files", x.count(0), 1);
    }

    private static void writeOfTheFirstAndTheLastPlace() {
        StripedStore x = store();
        CHECK.due("the first", Hand.now(x, Hand.write(x, "a", 0, "x")), 1);
        CHECK.due("size", x.file(0, 0), 1);
        CHECK.due("the last", Hand.now(x, Hand.write(x, "a", 8191, "y")), 1);
        CHECK.due("size", x.file(0, 0), 8192);
        CHECK.due("one more", Hand.now(x, Hand.write(x, "a", 8192, "z")), FULL);
        CHECK.due("size", x.file(0, 0), 8192);
        CHECK.due("read", Hand.read(x, "a", 8190, 9).equals("\0y"), true);
    }

    private static void writeUpTo8192() {
        for (int length : new int[] {1, 2, 448, 2047, 2048}) {
            StripedStore x = store();
            CHECK.due("one too far", Hand.now(x, Hand.write(x, "a", 8193 - length, Hand.times("x", length))), FULL);
            CHECK.due("files", x.count(0), 0);
            CHECK.due("up to the end", Hand.now(x, Hand.write(x, "a", 8192 - length, Hand.times("x", length))), length);
            CHECK.due("size", x.file(0, 0), 8192);
            CHECK.due("one too far", Hand.now(x, Hand.write(x, "a", 8193 - length, Hand.times("y", length))), FULL);
            CHECK.due("nothing is written", x.onDisk(0, 18, 0, 127), 'x');
        }
    }

    private static void writeOf2048Bytes() {
        for (int a = 445; a <= 450; a++) {
            StripedStore x = store();
            String bytes = Hand.times("0123456789abcdef", 128);
            CHECK.due("write at " + a, Hand.now(x, Hand.write(x, "a", a, bytes)), 2048);
            CHECK.due("read", Hand.read(x, "a", a, 2048).equals(bytes), true);
            CHECK.due("before it", Hand.read(x, "a", 0, a).equals(Hand.times("\0", a)), true);
            CHECK.due("laid", x.count(2), a < 448 ? 6 : 5);
        }
    }

    private static void writeBehindTheEndLeavesZeros() {
        StripedStore x = store();
        Hand.write(x, "a", 0, "abc");
        Hand.op(x, Hand.CUT, "a", 1, 0);
        Hand.write(x, "a", 3, "d");
        x.settle();
        is("what lies between", x, "a", "a\0\0d");
        Hand.write(x, "a", 4, "e");
        x.settle();
        is("nothing lies between", x, "a", "a\0\0de");
    }

    private static void writeWithinMakesItNoLonger() {
        StripedStore x = store();
        Hand.write(x, "a", 0, "abcdef");
        CHECK.due("the last", Hand.now(x, Hand.write(x, "a", 5, "F")), 1);
        CHECK.due("size", x.file(0, 0), 6);
        CHECK.due("one over the end", Hand.now(x, Hand.write(x, "a", 5, "fg")), 2);
        CHECK.due("size", x.file(0, 0), 7);
        is("read", x, "a", "abcdefg");
    }

    private static void writeOfNothing() {
        StripedStore x = store();
        CHECK.due("makes", Hand.now(x, Hand.write(x, "a", 8192, "")), 0);
        CHECK.due("files", x.count(0), 1);
        CHECK.due("size", x.file(0, 0), 0);
        Hand.write(x, "a", 0, "abc");
        for (int a : new int[] {0, 2, 3, 4, 448, 8191, 8192}) {
            CHECK.due("nothing at " + a, Hand.now(x, Hand.write(x, "a", a, "")), 0);
            CHECK.due("size", x.file(0, 0), 3);
            CHECK.due("laid", x.file(0, 3), 1);
        }
        StripedStore y = with32768();
        CHECK.due("into a full store", Hand.now(y, Hand.write(y, "g", 8192, "")), 0);
        CHECK.due("into a full file", Hand.now(y, Hand.write(y, "f0", 8192, "")), 0);
        CHECK.due("files", y.count(0), 5);
    }

    private static void writeOfThe49th() {
        StripedStore x = with48();
        CHECK.due("write", Hand.now(x, Hand.write(x, "more", 0, "x")), FULL);
        CHECK.due("write nothing", Hand.now(x, Hand.write(x, "more", 0, "")), FULL);
        CHECK.due("files", x.count(0), 48);
        CHECK.due("write to one that is there", Hand.now(x, Hand.write(x, "file 47", 0, "x")), 1);
        CHECK.due("bytes", x.count(1), 1);
    }

    private static void writeThatIsFullMakesNothing() {
        StripedStore x = store();
        CHECK.due("write", Hand.now(x, Hand.write(x, "a", 8192, "x")), FULL);
        CHECK.due("files", x.count(0), 0);
        CHECK.due("audit", x.audit(), 0);
        for (int n = 0; n < 4; n++) {
            CHECK.due("holds", x.holds(n), 0);
        }
        CHECK.due("and the tape is gone", x.count(9), 0);
    }

    private static void allFilesUpTo32768() {
        StripedStore x = with32768();
        CHECK.due("one more", Hand.now(x, Hand.write(x, "g", 0, "x")), FULL);
        CHECK.due("not made", x.count(0), 4);
        CHECK.due("within", Hand.now(x, Hand.write(x, "f3", 8191, "x")), 1);
        CHECK.due("one less", Hand.now(x, Hand.op(x, Hand.CUT, "f0", 8191, 0)), 8192);
        CHECK.due("two more", Hand.now(x, Hand.write(x, "g", 0, "xy")), FULL);
        CHECK.due("two more behind a gap", Hand.now(x, Hand.write(x, "g", 1, "x")), FULL);
        CHECK.due("not made", x.count(0), 4);
        CHECK.due("bytes", x.count(1), 32767);
        CHECK.due("one more", Hand.now(x, Hand.append(x, "g", "x")), 1);
        CHECK.due("bytes", x.count(1), 32768);
        CHECK.due("append", Hand.now(x, Hand.append(x, "g", "x")), FULL);
        CHECK.due("append to f0", Hand.now(x, Hand.append(x, "f0", "x")), FULL);
        CHECK.due("bytes", x.count(1), 32768);
        CHECK.due("audit", x.audit(), 0);
    }

    private static void bytesThatGoMakeRoom() {
        StripedStore x = with32768();
        Hand.op(x, Hand.MAKE, "g");
        CHECK.due("rename onto one of 8192", Hand.now(x, Hand.pair(x, Hand.RENAME, "g", "f1")), 1);
        CHECK.due("bytes", x.count(1), 24576);
        CHECK.due("cut", Hand.now(x, Hand.op(x, Hand.CUT, "f1", 8192, 0)), 0);
        CHECK.due("bytes", x.count(1), 32768);
        CHECK.due("remove", Hand.now(x, Hand.op(x, Hand.REMOVE, "f2")), 8192);
        CHECK.due("write", Hand.now(x, Hand.write(x, "h", 8191, "x")), 1);
        CHECK.due("bytes", x.count(1), 32768);
        CHECK.due("one more", Hand.now(x, Hand.write(x, "i", 0, "x")), FULL);
    }

    private static void appendMakesAFile() {
        StripedStore x = store();
        int append = Hand.append(x, "a", "x");
        CHECK.due("append", Hand.now(x, append), 1);
        CHECK.due("its id", x.file(0, 1), append);
        CHECK.due("append", Hand.now(x, Hand.append(x, "a", "yz")), 2);
        is("read", x, "a", "xyz");
    }

    private static void appendUpTo8192() {
        for (int length : new int[] {1, 2, 448, 2047, 2048}) {
            StripedStore x = store();
            Hand.op(x, Hand.MAKE, "a");
            Hand.op(x, Hand.CUT, "a", 8193 - length, 0);
            CHECK.due("one too many", Hand.now(x, Hand.append(x, "a", Hand.times("x", length))), FULL);
            CHECK.due("size", x.file(0, 0), 8193 - length);
            Hand.op(x, Hand.CUT, "a", 8192 - length, 0);
            CHECK.due("up to 8192", Hand.now(x, Hand.append(x, "a", Hand.times("x", length))), length);
            CHECK.due("size", x.file(0, 0), 8192);
            CHECK.due("the last", x.onDisk(0, 18, 1, 127), 'x');
        }
    }

    private static void appendOfNothing() {
        StripedStore x = store();
        CHECK.due("makes", Hand.now(x, Hand.append(x, "a", "")), 0);
        CHECK.due("size", x.file(0, 0), 0);
        Hand.op(x, Hand.CUT, "a", 8192, 0);
        CHECK.due("to a full one", Hand.now(x, Hand.append(x, "a", "")), 0);
        CHECK.due("size", x.file(0, 0), 8192);
        CHECK.due("laid", x.file(0, 3), 0);
    }

    private static void appendOfThe49th() {
        StripedStore x = with48();
        CHECK.due("append", Hand.now(x, Hand.append(x, "more", "x")), FULL);
        CHECK.due("append nothing", Hand.now(x, Hand.append(x, "more", "")), FULL);
        CHECK.due("files", x.count(0), 48);
        CHECK.due("append to one that is there", Hand.now(x, Hand.append(x, "file 0", "x")), 1);
    }

    private static void cutOfNone() {
        StripedStore x = store();
        for (int a : new int[] {0, 1, 8192}) {
            CHECK.due("cut", Hand.now(x, Hand.op(x, Hand.CUT, "a", a, 0)), NONE);
        }
        CHECK.due("files", x.count(0), 0);
        StripedStore y = with32768();
        CHECK.due("none is told also of a full store", Hand.now(y, Hand.op(y, Hand.CUT, "g", 8192, 0)), NONE);
    }

    private static void cutShorterAndLonger() {
        StripedStore x = store();
        Hand.write(x, "a", 0, "abcdef");
        CHECK.due("one less", Hand.now(x, Hand.op(x, Hand.CUT, "a", 5, 0)), 6);
        is("read", x, "a", "abcde");
        CHECK.due("one more", Hand.now(x, Hand.op(x, Hand.CUT, "a", 6, 0)), 5);
        is("read", x, "a", "abcde\0");
        CHECK.due("to nothing", Hand.now(x, Hand.op(x, Hand.CUT, "a", 0, 0)), 6);
        is("read", x, "a", "");
        CHECK.due("it is still there", size(x, "a"), 0);
        CHECK.due("to all", Hand.now(x, Hand.op(x, Hand.CUT, "a", 8192, 0)), 0);
        CHECK.due("size", size(x, "a"), 8192);
        CHECK.due("back", Hand.now(x, Hand.op(x, Hand.CUT, "a", 1, 0)), 8192);
        is("read", x, "a", "\0");
    }

    private static void cutToTheSame() {
        StripedStore x = store();
        for (int length : new int[] {1, 447, 448, 449, 896}) {
            String bytes = Hand.times("x", length);
            Hand.write(x, "f" + length, 0, bytes);
            CHECK.due("cut", Hand.now(x, Hand.op(x, Hand.CUT, "f" + length, length, 0)), length);
            is("read", x, "f" + length, bytes);
        }
        CHECK.due("audit", x.audit(), 0);
    }

    private static void cutUpTo32768InAll() {
        StripedStore x = with32768();
        Hand.op(x, Hand.MAKE, "g");
        CHECK.due("one more", Hand.now(x, Hand.op(x, Hand.CUT, "g", 1, 0)), FULL);
        CHECK.due("no more", Hand.now(x, Hand.op(x, Hand.CUT, "g", 0, 0)), 0);
        CHECK.due("the same", Hand.now(x, Hand.op(x, Hand.CUT, "f0", 8192, 0)), 8192);
        CHECK.due("less", Hand.now(x, Hand.op(x, Hand.CUT, "f0", 8000, 0)), 8192);
        CHECK.due("one too many", Hand.now(x, Hand.op(x, Hand.CUT, "g", 193, 0)), FULL);
        CHECK.due("size", x.file(4, 0), 0);
        CHECK.due("all there is room for", Hand.now(x, Hand.op(x, Hand.CUT, "g", 192, 0)), 0);
        CHECK.due("bytes", x.count(1), 32768);
    }

    private static void cutOffBytesDoNotComeBack() {
        for (int a : new int[] {0, 1, 3, 447, 448, 449, 895, 896, 897}) {
            StripedStore x = store();
            Hand.write(x, "a", 0, Hand.times("x", 1000));
            Hand.op(x, Hand.CUT, "a", a, 0);
            Hand.op(x, Hand.CUT, "a", 1000, 0);
            x.settle();
            is("cut at " + a, x, "a", Hand.times("x", a) + Hand.times("\0", 1000 - a));
            CHECK.due("laid", x.file(0, 3), (a + 447) / 448);
        }
    }

    private static void readAsFarAsThereAre() {
        StripedStore x = store();
        Hand.write(x, "a", 0, "abcdef");
        x.settle();
        int[][] asked = {{0, 0}, {0, 1}, {0, 6}, {0, 7}, {0, 2048}, {5, 1}, {5, 2}, {6, 0}, {6, 1}, {7, 1}, {8192, 0},
            {8192, 2048}, {2, 3}};
        String[] due = {"", "a", "abcdef", "abcdef", "abcdef", "f", "f", "", "", "", "", "", "cde"};
        for (int i = 0; i < asked.length; i++) {
            int read = Hand.op(x, Hand.READ, "a", asked[i][0], asked[i][1]);
            CHECK.due("read " + asked[i][0] + " " + asked[i][1], Hand.now(x, read), due[i].length());
            CHECK.due("told", Hand.told(x, read).equals(due[i]), true);
        }
        Hand.op(x, Hand.CUT, "a", 8192, 0);
        CHECK.due("no more than 2048", Hand.now(x, Hand.op(x, Hand.READ, "a", 6144, 2048)), 2048);
        CHECK.due("up to the end", Hand.now(x, Hand.op(x, Hand.READ, "a", 6145, 2048)), 2047);
        CHECK.due("the last", Hand.now(x, Hand.op(x, Hand.READ, "a", 8191, 2048)), 1);
        CHECK.due("behind it", Hand.now(x, Hand.op(x, Hand.READ, "a", 8192, 2048)), 0);
    }

    private static void readOfWhatIsNotLaid() {
        StripedStore x = store();
        Hand.write(x, "a", 447, "x");
        Hand.write(x, "a", 1344, "y");
        x.settle();
        CHECK.due("laid", x.file(0, 3), 2);
        CHECK.due("over one that is not laid", Hand.read(x, "a", 446, 900).equals("\0x" + Hand.times("\0", 896) + "y"), true);
        CHECK.due("within it", Hand.read(x, "a", 448, 896).equals(Hand.times("\0", 896)), true);
    }

    private static void readOfNone() {
        StripedStore x = store();
        CHECK.due("read", Hand.now(x, Hand.op(x, Hand.READ, "a", 0, 0)), NONE);
        CHECK.due("read", Hand.now(x, Hand.op(x, Hand.READ, "a", 8192, 2048)), NONE);
        Hand.op(x, Hand.MAKE, "a");
        CHECK.due("read", Hand.now(x, Hand.op(x, Hand.READ, "a", 0, 2048)), 0);
    }

    private static void removeOfAnEmptyOne() {
        StripedStore x = store();
        Hand.op(x, Hand.MAKE, "a");
        CHECK.due("remove", Hand.now(x, Hand.op(x, Hand.REMOVE, "a")), 0);
        CHECK.due("files", x.count(0), 0);
        Hand.op(x, Hand.MAKE, "a");
        Hand.op(x, Hand.CUT, "a", 8192, 0);
        CHECK.due("remove", Hand.now(x, Hand.op(x, Hand.REMOVE, "a")), 8192);
        CHECK.due("bytes", x.count(1), 0);
    }

    private static void removeOfNone() {
        StripedStore x = store();
        CHECK.due("remove", Hand.now(x, Hand.op(x, Hand.REMOVE, "a")), NONE);
        Hand.op(x, Hand.MAKE, "a");
        Hand.op(x, Hand.REMOVE, "a");
        CHECK.due("remove twice", Hand.now(x, Hand.op(x, Hand.REMOVE, "a")), NONE);
    }

    private static void removedAndMadeAgain() {
        StripedStore x = store();
        Hand.write(x, "a", 0, Hand.times("x", 1000));
        Hand.op(x, Hand.REMOVE, "a");
        int again = Hand.write(x, "a", 2, "y");
        x.settle();
        is("only what is new", x, "a", "\0\0y");
        CHECK.due("a new id", x.file(0, 1), again);
        CHECK.due("laid", x.file(0, 3), 1);
        CHECK.due("audit", x.audit(), 0);
    }

    private static void renameToOneThatIsThere() {
        StripedStore x = store();
        int a = Hand.write(x, "a", 0, "of a");
        Hand.write(x, "b", 0, Hand.times("of b", 200));
        CHECK.due("rename", Hand.now(x, Hand.pair(x, Hand.RENAME, "a", "b")), 1);
        CHECK.due("files", x.count(0), 1);
        CHECK.due("bytes", x.count(1), 4);
        CHECK.due("laid", x.count(2), 1);
        CHECK.due("id", x.file(0, 1), a);
        is("read", x, "b", "of a");
        CHECK.due("the old name", size(x, "a"), NONE);
        CHECK.due("audit", x.audit(), 0);
    }

    private static void renameToOneThatIsNot() {
        StripedStore x = store();
        Hand.write(x, "a", 0, "of a");
        String longest = Hand.times("n", 200);
        CHECK.due("rename", Hand.now(x, Hand.pair(x, Hand.RENAME, "a", longest)), 0);
        CHECK.due("its name", x.file(0, 2), 200);
        CHECK.due("rename", Hand.now(x, Hand.pair(x, Hand.RENAME, longest, "n")), 0);
        CHECK.due("its name", x.file(0, 2), 1);
        is("read", x, "n", "of a");
    }

    private static void renameToTheSame() {
        StripedStore x = store();
        Hand.write(x, "a", 0, "of a");
        CHECK.due("rename", Hand.now(x, Hand.pair(x, Hand.RENAME, "a", "a")), 0);
        is("it stays", x, "a", "of a");
        CHECK.due("rename of none to the same", Hand.now(x, Hand.pair(x, Hand.RENAME, "b", "b")), NONE);
    }

    private static void renameOfNone() {
        StripedStore x = store();
        Hand.write(x, "b", 0, "of b");
        CHECK.due("rename", Hand.now(x, Hand.pair(x, Hand.RENAME, "a", "b")), NONE);
        is("it stays", x, "b", "of b");
    }

    private static void renameWith48() {
        StripedStore x = with48();
        CHECK.due("rename", Hand.now(x, Hand.pair(x, Hand.RENAME, "file 0", "more")), 0);
        CHECK.due("files", x.count(0), 48);
        CHECK.due("rename", Hand.now(x, Hand.pair(x, Hand.RENAME, "more", "file 1")), 1);
        CHECK.due("files", x.count(0), 47);
        CHECK.due("make", Hand.now(x, Hand.op(x, Hand.MAKE, "more")), 0);
    }

    private static void swapOfTwo() {
        StripedStore x = store();
        int a = Hand.write(x, "a", 0, "of a");
        String longest = Hand.times("b", 200);
        int b = Hand.write(x, longest, 0, "and of b");
        CHECK.due("swap", Hand.now(x, Hand.pair(x, Hand.SWAP, "a", longest)), 0);
        CHECK.due("id", x.file(0, 1), b);
        CHECK.due("id", x.file(1, 1), a);
        CHECK.due("name", x.file(0, 2), 1);
        CHECK.due("name", x.file(1, 2), 200);
        CHECK.due("size", x.file(0, 0), 8);
        is("read", x, longest, "of a");
    }

    private static void swapWithTheSame() {
        StripedStore x = store();
        Hand.write(x, "a", 0, "of a");
        CHECK.due("swap", Hand.now(x, Hand.pair(x, Hand.SWAP, "a", "a")), 0);
        is("it stays", x, "a", "of a");
        CHECK.due("swap of none with the same", Hand.now(x, Hand.pair(x, Hand.SWAP, "b", "b")), NONE);
    }

    private static void swapWithoutOneOfThem() {
        StripedStore x = store();
        Hand.write(x, "a", 0, "of a");
        CHECK.due("without the second", Hand.now(x, Hand.pair(x, Hand.SWAP, "a", "b")), NONE);
        CHECK.due("without the first", Hand.now(x, Hand.pair(x, Hand.SWAP, "b", "a")), NONE);
        CHECK.due("without both", Hand.now(x, Hand.pair(x, Hand.SWAP, "b", "c")), NONE);
        is("it stays", x, "a", "of a");
    }

    private static void sizes() {
        StripedStore x = store();
        CHECK.due("none", size(x, "a"), NONE);
        Hand.op(x, Hand.MAKE, "a");
        CHECK.due("empty", size(x, "a"), 0);
        Hand.op(x, Hand.CUT, "a", 8192, 0);
        CHECK.due("the most", size(x, "a"), 8192);
    }

    private static String next(StripedStore x, String name) {
        Hand.name(x, 0, name);
        int next = x.begin(Hand.NEXT, 0, 0);
        x.settle();
        String told = Hand.told(x, next);
        CHECK.due("its length", x.answer(next), told.isEmpty() ? NONE : told.length());
        return told;
    }

    private static void nextOfAnEmptyName() {
        StripedStore x = store();
        CHECK.due("of an empty store", next(x, "").isEmpty(), true);
        Hand.op(x, Hand.MAKE, "b");
        Hand.op(x, Hand.MAKE, "\0");
        x.settle();
        CHECK.due("the least", next(x, "").equals("\0"), true);
    }

    private static void nextIsGreaterNotTheSame() {
        StripedStore x = store();
        Hand.op(x, Hand.MAKE, "b");
        Hand.op(x, Hand.MAKE, "c");
        x.settle();
        CHECK.due("of b", next(x, "b").equals("c"), true);
        CHECK.due("of a", next(x, "a").equals("b"), true);
        CHECK.due("of bb", next(x, "bb").equals("c"), true);
    }

    private static void nextByteByByteWithoutSign() {
        StripedStore x = store();
        String[] names = {"\0", "\1", "\177", "\200", "\376", "\377"};
        for (int i = 5; i >= 0; i--) {
            Hand.op(x, Hand.MAKE, names[i]);
            Hand.op(x, Hand.MAKE, "abcde" + names[i]);
        }
        x.settle();
        for (int i = 0; i < 5; i++) {
            String due = i == 1 ? "abcde\0" : names[i + 1];
            CHECK.due("of " + (int) names[i].charAt(0), next(x, names[i]).equals(due), true);
            CHECK.due("of the other", next(x, "abcde" + names[i]).equals("abcde" + names[i + 1]), true);
        }
        CHECK.due("of the last of the others", next(x, "abcde\377").equals("\177"), true);
    }

    private static void nextWithOneThatIsTheBeginning() {
        StripedStore x = store();
        String[] names = {"a", "a\0", "a\0\0", "a\0\0\0", "aa", "aaaa", "aaaa\0", "aaaaa", "ab"};
        for (String name : names) {
            Hand.op(x, Hand.MAKE, name);
        }
        x.settle();
        for (int i = 0; i + 1 < names.length; i++) {
            CHECK.due("of name " + i, next(x, names[i]).equals(names[i + 1]), true);
        }
        for (int k = 0; k < names.length; k++) {
            CHECK.due("by names", x.file(k, 1), k);
        }
    }

    private static void nextBehindTheLast() {
        StripedStore x = store();
        String last = Hand.times("\377", 200);
        Hand.op(x, Hand.MAKE, last);
        x.settle();
        CHECK.due("of one byte less", next(x, Hand.times("\377", 199)).equals(last), true);
        CHECK.due("of the last", next(x, last).isEmpty(), true);
    }

    private static void namesOf1To200Bytes() {
        StripedStore x = store();
        int[] lengths = {1, 2, 3, 4, 5, 196, 197, 198, 199, 200};
        for (int length : lengths) {
            Hand.write(x, Hand.times("n", length), 0, Hand.times("x", length));
        }
        x.settle();
        for (int k = 0; k < lengths.length; k++) {
            CHECK.due("name of file " + k, x.file(k, 2), lengths[k]);
            CHECK.due("bytes of file " + k, x.file(k, 0), lengths[k]);
            CHECK.due("size of file " + k, size(x, Hand.times("n", lengths[k])), lengths[k]);
        }
    }

    private static void stripesOf448Bytes() {
        for (int length : new int[] {1, 447, 448, 449, 895, 896, 897, 2048}) {
            StripedStore x = store();
            Hand.write(x, "a", 0, Hand.times("x", length));
            x.settle();
            int stripes = (length + 447) / 448;
            CHECK.due("laid of " + length, x.file(0, 3), stripes);
            CHECK.due("the last of " + length, x.where(0, stripes - 1, 0) >= 0, true);
            CHECK.due("one more than " + length, x.where(0, stripes, 0), NONE);
            int last = length - 448 * (stripes - 1);
            CHECK.due("its last byte", x.onDisk(0, stripes - 1, 0, last - 1), 'x');
            CHECK.due("one more", x.onDisk(0, stripes - 1, 0, last), NONE);
        }
    }

    private static void theLastStripe() {
        StripedStore x = store();
        Hand.write(x, "a", 8063, "x");
        x.settle();
        CHECK.due("the last byte of the last but one", x.onDisk(0, 17, 0, 447), 'x');
        Hand.write(x, "a", 8064, "y");
        x.settle();
        CHECK.due("the first byte of the last", x.onDisk(0, 18, 0, 0), 'y');
        Hand.write(x, "a", 8191, "z");
        x.settle();
        CHECK.due("its last byte", x.onDisk(0, 18, 0, 127), 'z');
        CHECK.due("laid", x.file(0, 3), 2);
    }

    private static void stripesAreLaidByWrites() {
        StripedStore x = store();
        Hand.write(x, "a", 447, "xy");
        x.settle();
        CHECK.due("two by two bytes", x.file(0, 3), 2);
        Hand.write(x, "b", 448, "xy");
        x.settle();
        CHECK.due("one, not the one before", x.file(1, 3), 1);
        CHECK.due("where", x.where(1, 0, 0), NONE);
        Hand.op(x, Hand.MAKE, "c");
        Hand.op(x, Hand.CUT, "c", 448, 0);
        Hand.append(x, "c", "z");
        x.settle();
        CHECK.due("one by append", x.file(2, 3), 1);
        CHECK.due("where", x.where(2, 1, 1) >= 0, true);
        Hand.write(x, "d", 0, "\0");
        x.settle();
        CHECK.due("one by a byte that is 0", x.file(3, 3), 1);
    }

    private static void stripesAreNotLaidByCuts() {
        StripedStore x = store();
        Hand.op(x, Hand.MAKE, "a");
        Hand.op(x, Hand.CUT, "a", 8192, 0);
        x.settle();
        CHECK.due("laid", x.file(0, 3), 0);
        CHECK.due("laid of all", x.count(2), 0);
        for (int n = 0; n < 4; n++) {
            CHECK.due("holds", x.holds(n), 0);
        }
        CHECK.due("read", Hand.read(x, "a", 6144, 2048).equals(Hand.times("\0", 2048)), true);
    }

    private static void stripesGoWithTheirLastByte() {
        StripedStore x = store();
        Hand.write(x, "a", 0, Hand.times("x", 897));
        x.settle();
        int[] cuts = {897, 896, 449, 448, 1, 0};
        int[] due = {3, 2, 2, 1, 1, 0};
        for (int i = 0; i < cuts.length; i++) {
            Hand.op(x, Hand.CUT, "a", cuts[i], 0);
            x.settle();
            CHECK.due("laid at " + cuts[i], x.file(0, 3), due[i]);
            CHECK.due("copies at " + cuts[i], x.holds(0) + x.holds(1) + x.holds(2) + x.holds(3), 2 * due[i]);
        }
    }

    private static void stripesStayWithAByte() {
        StripedStore x = store();
        Hand.write(x, "a", 500, "x");
        Hand.op(x, Hand.CUT, "a", 449, 0);
        x.settle();
        CHECK.due("laid, though what was written went", x.file(0, 3), 1);
        CHECK.due("its byte", x.onDisk(0, 1, 0, 0), 0);
        Hand.op(x, Hand.CUT, "a", 8192, 0);
        x.settle();
        CHECK.due("laid", x.file(0, 3), 1);
    }

    private static void stripesLaidAgain() {
        StripedStore x = store();
        Hand.write(x, "a", 448, "x");
        Hand.op(x, Hand.CUT, "a", 448, 0);
        Hand.op(x, Hand.CUT, "a", 896, 0);
        x.settle();
        CHECK.due("had no byte in between", x.file(0, 3), 0);
        Hand.write(x, "a", 895, "y");
        x.settle();
        CHECK.due("written again", x.file(0, 3), 1);
        CHECK.due("what it had is gone", x.onDisk(0, 1, 0, 0), 0);
        CHECK.due("what is new", x.onDisk(0, 1, 0, 447), 'y');
    }

    private static int draw(int g, int n) {
        try {
            Method draw = Class.forName("StripedStore$Ranks").getDeclaredMethod("draw", int.class, int.class);
            draw.setAccessible(true);
            return (Integer) draw.invoke(null, g, n);
        } catch (ReflectiveOperationException e) {
            throw new IllegalStateException(e);
        }
    }

    /** Reckoned elsewhere, with numbers of any length that were cut to 32 bits. */
    private static void drawsAreIntsThatWrap() {
        int[][] due = {{147419777, 2046251071, 1390549558, 1834101340, 982604627, 2144374556},
            {859666350, 2045804844, 1085358767, 1046823212, 199454475, 64788029},
            {1305337771, 857660918, 382744906, 318822096, 1399132645, 1883177059}};
        for (int n = 0; n < 6; n++) {
            CHECK.due("draw of group 0 by node " + n, draw(0, n), due[0][n]);
            CHECK.due("draw of group 7 by node " + n, draw(7, n), due[1][n]);
            CHECK.due("draw of group 15 by node " + n, draw(15, n), due[2][n]);
        }
    }

    /** So which of the same comes first can never be seen. */
    private static void noTwoDrawsAreTheSame() {
        for (int g = 0; g < 16; g++) {
            for (int n = 0; n < 36; n++) {
                CHECK.due("the same draw", n / 6 == n % 6 || draw(g, n / 6) != draw(g, n % 6), true);
            }
        }
    }

    /** The stripes of one file belong to all 16 groups. */
    private static void theGreatestDrawsOfEveryGroup() {
        for (int nodes = 3; nodes <= 6; nodes++) {
            for (int copies = 2; copies <= 3; copies++) {
                StripedStore x = new StripedStore(nodes, copies, 16);
                for (int part = 0; part < 4; part++) {
                    Hand.write(x, "a", 2048 * part, Hand.times("x", 2048));
                }
                x.settle();
                for (int s = 0; s < 19; s++) {
                    for (int r = 0; r < copies; r++) {
                        int due = Hand.nodeOf(s * 7 % 16, r, (1 << nodes) - 1);
                        CHECK.due("stripe " + s + " copy " + r + " of " + nodes, x.where(0, s, r), due);
                        CHECK.due("and it is there", x.onDisk(0, s, r, 127), 'x');
                    }
                }
                CHECK.due("audit", x.audit(), 0);
            }
        }
    }

    /** With the greatest IDs that a store can have. */
    private static void groupsOfStripes() {
        StripedStore x = new StripedStore(6, 3, 16);
        Hand.name(x, 0, "a");
        for (int i = 0; i < 460; i++) {
            x.begin(Hand.SIZE, 0, 0);
            if (i % 12 == 11) {
                x.settle();
            }
        }
        x.settle();
        for (int part = 0; part < 4; part++) {
            Hand.tape(x, Hand.times("x", 2048));
            x.begin(Hand.WRITE, 2048 * part, 0);
        }
        x.settle();
        CHECK.due("id", x.file(0, 1), 460);
        for (int s = 0; s < 19; s++) {
            for (int r = 0; r < 3; r++) {
                CHECK.due("stripe " + s + " copy " + r, x.where(0, s, r), Hand.nodeOf((460 * 31 + s * 7) % 16, r));
            }
        }
        CHECK.due("audit", x.audit(), 0);
    }

    private static void operationsOneBehindTheOther() {
        StripedStore x = store();
        int[] ops = {Hand.op(x, Hand.SIZE, "a"), Hand.op(x, Hand.MAKE, "a"), Hand.append(x, "a", "1"),
            Hand.append(x, "a", "2"), Hand.op(x, Hand.READ, "a", 0, 9), Hand.op(x, Hand.CUT, "a", 1, 0),
            Hand.op(x, Hand.READ, "a", 0, 9), Hand.op(x, Hand.REMOVE, "a"), Hand.op(x, Hand.REMOVE, "a")};
        int[] due = {NONE, 0, 1, 1, 2, 2, 1, 1, NONE};
        CHECK.due("settle", x.settle(), 9);
        for (int i = 0; i < ops.length; i++) {
            CHECK.due("number", ops[i], i);
            CHECK.due("answer " + i, x.answer(i), due[i]);
        }
        CHECK.due("told", Hand.told(x, 4).equals("12"), true);
        CHECK.due("told", Hand.told(x, 6).equals("1"), true);
    }

    private static void operationsHaveTheNamesOfThen() {
        StripedStore x = store();
        Hand.name(x, 0, "a");
        Hand.name(x, 1, "b");
        Hand.tape(x, "first");
        x.begin(Hand.WRITE, 0, 0);
        x.begin(Hand.RENAME, 0, 0);
        Hand.name(x, 0, "c");
        Hand.name(x, 1, "d");
        Hand.tape(x, "second");
        x.begin(Hand.WRITE, 0, 0);
        x.begin(Hand.RENAME, 0, 0);
        x.name(0);
        x.name(1);
        Hand.tape(x, "not taken");
        x.settle();
        is("b", x, "b", "first");
        is("d", x, "d", "second");
        CHECK.due("files", x.count(0), 2);
    }

    /** 512 calls: 3 for the name, and 12 of 13 begin an operation. */
    private static void theMostOperations() {
        StripedStore x = new StripedStore(6, 3, 16);
        x.feed(0x61000000, 0, 0, 0, 0);
        x.end(1);
        x.name(0);
        int calls = 3;
        int begun = 0;
        while (calls < 512) {
            if (calls % 13 == 2) {
                CHECK.due("settle", x.settle(), Math.min(begun, 12));
            } else {
                CHECK.due("begin", x.begin(begun % 3 == 2 ? Hand.REMOVE : Hand.MAKE, 0, 0), begun);
                begun++;
            }
            calls++;
        }
        x.settle();
        CHECK.due("operations", begun > 465, true);
        for (int i = 0; i < begun; i++) {
            CHECK.due("answer " + i, x.answer(i), i % 3 == 1 ? EXISTS : 0);
        }
    }

    /** What later calls answer is free, but none may fail. */
    private static void callsBehindThe512th() {
        StripedStore x = new StripedStore(3, 3, 7);
        for (int round = 0; round < 120; round++) {
            for (int i = 0; i < 12; i++) {
                Hand.name(x, 0, "file " + i * round % 50);
                Hand.name(x, 1, "file " + round);
                Hand.tape(x, Hand.times("x", 40));
                x.begin((round + i) % 10, i * 600, i * 100);
            }
            x.crash(round % 3, round, round * 7);
            x.replace(round % 3);
            x.stir(500, round);
            x.tick(2);
            CHECK.due("settle", x.settle() >= 0, true);
            CHECK.due("audit", x.audit(), 0);
            x.told(x.count(3) - 1, 0);
            x.answer(x.count(3) - 1);
        }
    }
}
