/** The boundary cases of promises 1 to 5 (a new object, feed, end, name, begin), one test for each sentence. */
public final class TapeEdgesTest {
    private static final Check CHECK = new Check("TapeEdgesTest");
    private static final int REFUSED = StripedStore.REFUSED, NONE = StripedStore.NONE, FULL = StripedStore.FULL;
    private static final int LEAST = Integer.MIN_VALUE, MOST = Integer.MAX_VALUE;

    public static void main(String[] args) {
        constants();
        nodesAreClamped();
        copiesAreClamped();
        groupsAreClamped();
        aNewStoreIsNotCalm();
        aNewStoreIsEmpty();
        feedPutsTheHighestByteFirst();
        feedOfIntsWithSigns();
        feedGoesUpTo2048();
        feedThatIsFullKeepsTheTape();
        feedBehindAnyEnd();
        endAllowsNoneToAll();
        endOfAnEmptyTape();
        endThatIsRefusedKeepsTheTape();
        endCutsTheBytesOff();
        namesAre0And1();
        namesHaveUpTo200Bytes();
        anEmptyTapeMakesAnEmptyName();
        nameThatIsRefusedKeepsNameAndTape();
        aShorterNameKeepsNothingOfALongerOne();
        kindsAre0To9();
        name0MustNotBeEmpty();
        name1MustNotBeEmptyForTwoKinds();
        placesAre0To8192();
        lengthsAre0To2048();
        whatAKindDoesNotHaveIsNotLookedAt();
        twelveMayHaveNoAnswer();
        refusedIsTestedBeforeFull();
        aFullBeginKeepsTheTape();
        aRefusedBeginKeepsTheTape();
        onlyWriteAndAppendTakeTheTape();
        CHECK.end();
    }

    private static void constants() {
        int[] all = {StripedStore.REFUSED, StripedStore.NONE, StripedStore.EXISTS, StripedStore.FULL,
            StripedStore.PENDING, StripedStore.BUSY, StripedStore.STUCK};
        for (int i = 0; i < all.length; i++) {
            CHECK.due("constant " + i, all[i], -1 - i);
        }
    }

    private static void nodesAreClamped() {
        int[] asked = {LEAST, -1, 0, 1, 2, 3, 4, 5, 6, 7, 8, MOST};
        int[] due = {3, 3, 3, 3, 3, 3, 4, 5, 6, 6, 6, 6};
        for (int i = 0; i < asked.length; i++) {
            StripedStore x = new StripedStore(asked[i], 2, 1);
            CHECK.due("nodes up of " + asked[i], x.count(6), due[i]);
            CHECK.due("nodes in of " + asked[i], x.count(7), (1 << due[i]) - 1);
            CHECK.due("settle", x.settle(), 0);
            CHECK.due("the last node of " + asked[i], x.holds(due[i] - 1), 0);
            CHECK.due("one more than " + asked[i], x.holds(due[i]), REFUSED);
        }
    }

    private static void copiesAreClamped() {
        int[] asked = {LEAST, -1, 0, 1, 2, 3, 4, 5, MOST};
        int[] due = {2, 2, 2, 2, 2, 3, 3, 3, 3};
        for (int i = 0; i < asked.length; i++) {
            StripedStore x = new StripedStore(5, asked[i], 3);
            Hand.write(x, "a", 0, "x");
            x.settle();
            CHECK.due("the last copy of " + asked[i], x.where(0, 0, due[i] - 1) >= 0, true);
            CHECK.due("one more than " + asked[i], x.where(0, 0, due[i]), NONE);
            int held = 0;
            for (int n = 0; n < 5; n++) {
                held += x.holds(n);
            }
            CHECK.due("copies on all disks", held, due[i]);
        }
    }

    /** A file of 19 stripes shows which group each one belongs to. */
    private static void groupsAreClamped() {
        int[] asked = {LEAST, -1, 0, 1, 2, 3, 15, 16, 17, 18, MOST};
        int[] due = {1, 1, 1, 1, 2, 3, 15, 16, 16, 16, 16};
        for (int i = 0; i < asked.length; i++) {
            StripedStore x = new StripedStore(6, 2, asked[i]);
            Hand.op(x, Hand.MAKE, "no stripes");
            for (int part = 0; part < 4; part++) {
                Hand.write(x, "a", 2048 * part, Hand.times("x", 2048));
            }
            x.settle();
            CHECK.due("laid", x.file(0, 3), 19);
            for (int s = 0; s < 19; s++) {
                int g = (31 + s * 7) % due[i];
                CHECK.due("copy 0 of stripe " + s + " of " + asked[i], x.where(0, s, 0), Hand.nodeOf(g, 0));
                CHECK.due("copy 1 of stripe " + s + " of " + asked[i], x.where(0, s, 1), Hand.nodeOf(g, 1));
            }
        }
    }

    private static void aNewStoreIsNotCalm() {
        StripedStore x = new StripedStore(4, 3, 2);
        CHECK.due("calm", x.count(10), 0);
        CHECK.due("file", x.file(0, 0), StripedStore.BUSY);
        CHECK.due("where", x.where(0, 0, 0), StripedStore.BUSY);
        CHECK.due("onDisk", x.onDisk(0, 0, 0, 0), StripedStore.BUSY);
        CHECK.due("holds", x.holds(0), StripedStore.BUSY);
        CHECK.due("audit", x.audit(), StripedStore.BUSY);
    }

    private static void aNewStoreIsEmpty() {
        StripedStore x = new StripedStore(4, 3, 2);
        int[] due = {0, 0, 0, 0, 0, 1, 4, 15, 0, 0, 0};
        for (int what = 0; what < due.length; what++) {
            CHECK.due("count " + what, x.count(what), due[what]);
        }
        CHECK.due("answer", x.answer(0), REFUSED);
        CHECK.due("told", x.told(0, 0), NONE);
    }

    /** What the tape has is seen when a file has it as its name. */
    private static String nameOnTape(StripedStore x) {
        x.name(0);
        x.begin(Hand.MAKE, 0, 0);
        x.name(0);
        int next = x.begin(Hand.NEXT, 0, 0);
        x.settle();
        String told = Hand.told(x, next);
        CHECK.due("length", x.answer(next), told.length());
        return told;
    }

    private static void feedPutsTheHighestByteFirst() {
        StripedStore x = new StripedStore(3, 2, 1);
        CHECK.due("feed", x.feed(0x01020304, 0x05060708, 0x090a0b0c, 0x0d0e0f10, 0x11121314), 20);
        String told = nameOnTape(x);
        CHECK.due("bytes", told.length(), 20);
        for (int i = 0; i < 20; i++) {
            CHECK.due("byte " + i, told.charAt(i), i + 1);
        }
    }

    private static void feedOfIntsWithSigns() {
        StripedStore x = new StripedStore(3, 2, 1);
        CHECK.due("feed", x.feed(LEAST, -1, MOST, 0x80ff7f00, 0x00ff0080), 20);
        int[] due = {128, 0, 0, 0, 255, 255, 255, 255, 127, 255, 255, 255, 128, 255, 127, 0, 0, 255, 0, 128};
        String told = nameOnTape(x);
        CHECK.due("bytes", told.length(), 20);
        for (int i = 0; i < 20; i++) {
            CHECK.due("byte " + i, told.charAt(i), due[i]);
        }
    }

    private static void feedGoesUpTo2048() {
        for (int length = 2026; length <= 2040; length++) {
            StripedStore x = new StripedStore(3, 2, 1);
            for (int i = 1; i <= 102; i++) {
                CHECK.due("feed", x.feed(i, i, i, i, i), 20 * i);
            }
            CHECK.due("end", x.end(length), length);
            CHECK.due("feed to " + length, x.feed(1, 1, 1, 1, 1), length <= 2028 ? length + 20 : FULL);
            CHECK.due("tape", x.count(9), length <= 2028 ? length + 20 : length);
        }
        StripedStore y = new StripedStore(3, 2, 1);
        Hand.tape(y, Hand.times("t", 2028));
        CHECK.due("feed", y.feed(1, 1, 1, 1, 1), 2048);
        CHECK.due("feed of a full tape", y.feed(1, 1, 1, 1, 1), FULL);
    }

    private static void feedThatIsFullKeepsTheTape() {
        StripedStore x = new StripedStore(3, 2, 1);
        Hand.name(x, 0, "a");
        Hand.tape(x, Hand.times("0123456789", 203) + "!");
        CHECK.due("tape", x.count(9), 2031);
        CHECK.due("feed", x.feed(-1, -1, -1, -1, -1), FULL);
        CHECK.due("tape", x.count(9), 2031);
        CHECK.due("written", Hand.now(x, x.begin(Hand.WRITE, 0, 0)), 2031);
        CHECK.due("bytes", Hand.read(x, "a", 0, 2048).equals(Hand.times("0123456789", 203) + "!"), true);
    }

    /** Where in a word the tape ends does not matter. */
    private static void feedBehindAnyEnd() {
        for (int length = 0; length <= 21; length++) {
            StripedStore x = new StripedStore(3, 2, 1);
            String begin = Hand.times("x", length);
            Hand.tape(x, begin);
            CHECK.due("feed", x.feed(0x41424344, 0x45464748, 0x494a4b4c, 0x4d4e4f50, 0x51525354), length + 20);
            CHECK.due("tape", nameOnTape(x).equals(begin + "ABCDEFGHIJKLMNOPQRST"), true);
        }
    }

    private static void endAllowsNoneToAll() {
        for (int length : new int[] {1, 20, 199, 2048}) {
            int[] asked = {length, 0, -1, length + 1, LEAST, MOST};
            int[] due = {length, 0, REFUSED, REFUSED, REFUSED, REFUSED};
            for (int i = 0; i < asked.length; i++) {
                StripedStore x = new StripedStore(3, 2, 1);
                Hand.tape(x, Hand.times("t", length));
                CHECK.due("end " + asked[i] + " of " + length, x.end(asked[i]), due[i]);
                CHECK.due("tape", x.count(9), due[i] < 0 ? length : due[i]);
            }
        }
    }

    private static void endOfAnEmptyTape() {
        StripedStore x = new StripedStore(3, 2, 1);
        CHECK.due("end 0", x.end(0), 0);
        CHECK.due("end 1", x.end(1), REFUSED);
        CHECK.due("end -1", x.end(-1), REFUSED);
        CHECK.due("tape", x.count(9), 0);
    }

    private static void endThatIsRefusedKeepsTheTape() {
        StripedStore x = new StripedStore(3, 2, 1);
        Hand.tape(x, "kept");
        CHECK.due("end 5", x.end(5), REFUSED);
        CHECK.due("end -1", x.end(-1), REFUSED);
        CHECK.due("tape", nameOnTape(x).equals("kept"), true);
    }

    private static void endCutsTheBytesOff() {
        StripedStore x = new StripedStore(3, 2, 1);
        Hand.tape(x, "abcdefghij");
        x.end(3);
        CHECK.due("cut off is gone", x.end(4), REFUSED);
        CHECK.due("feed", x.feed(0, 0, 0, 0, 0), 23);
        x.end(5);
        CHECK.due("tape", nameOnTape(x).equals("abc\0\0"), true);
    }

    private static void namesAre0And1() {
        int[] asked = {LEAST, -1, 0, 1, 2, 3, MOST};
        for (int k : asked) {
            StripedStore x = new StripedStore(3, 2, 1);
            Hand.tape(x, "name");
            boolean there = k == 0 || k == 1;
            CHECK.due("name " + k, x.name(k), there ? 4 : REFUSED);
            CHECK.due("tape", x.count(9), there ? 0 : 4);
            CHECK.due("name 0 is empty", x.begin(Hand.SIZE, 0, 0), k == 0 ? 0 : REFUSED);
        }
    }

    private static void namesHaveUpTo200Bytes() {
        for (int length : new int[] {1, 199, 200, 201, 220, 2048}) {
            for (int k = 0; k < 2; k++) {
                StripedStore x = new StripedStore(3, 2, 1);
                Hand.tape(x, Hand.times("n", length));
                CHECK.due("name of " + length, x.name(k), length <= 200 ? length : REFUSED);
                CHECK.due("tape", x.count(9), length <= 200 ? 0 : length);
            }
        }
    }

    private static void anEmptyTapeMakesAnEmptyName() {
        StripedStore x = new StripedStore(3, 2, 1);
        Hand.name(x, 0, "a");
        Hand.name(x, 1, "b");
        CHECK.due("begin", x.begin(Hand.SWAP, 0, 0), 0);
        CHECK.due("name 1", x.name(1), 0);
        CHECK.due("begin", x.begin(Hand.SWAP, 0, 0), REFUSED);
        CHECK.due("begin", x.begin(Hand.SIZE, 0, 0), 1);
        CHECK.due("name 0", x.name(0), 0);
        CHECK.due("begin", x.begin(Hand.SIZE, 0, 0), REFUSED);
    }

    private static void nameThatIsRefusedKeepsNameAndTape() {
        StripedStore x = new StripedStore(3, 2, 1);
        Hand.name(x, 0, "kept");
        Hand.tape(x, Hand.times("n", 201));
        CHECK.due("name 0", x.name(0), REFUSED);
        CHECK.due("name 2", x.name(2), REFUSED);
        CHECK.due("tape", x.count(9), 201);
        x.end(3);
        CHECK.due("name 2", x.name(2), REFUSED);
        CHECK.due("tape", x.count(9), 3);
        CHECK.due("write", x.begin(Hand.WRITE, 0, 0), 0);
        x.settle();
        CHECK.due("to the file with the name of before", Hand.read(x, "kept", 0, 9).equals("nnn"), true);
    }

    private static void aShorterNameKeepsNothingOfALongerOne() {
        StripedStore x = new StripedStore(3, 2, 1);
        for (int length = 200; length > 0; length -= 33) {
            Hand.name(x, 0, Hand.times("n", length));
            Hand.name(x, 0, "nn");
            CHECK.due("made once", Hand.now(x, x.begin(Hand.MAKE, 0, 0)), length == 200 ? 0 : StripedStore.EXISTS);
        }
        Hand.name(x, 0, "n");
        CHECK.due("its length", Hand.now(x, x.begin(Hand.NEXT, 0, 0)), 2);
    }

    private static void kindsAre0To9() {
        StripedStore x = new StripedStore(3, 2, 1);
        Hand.name(x, 0, "a");
        Hand.name(x, 1, "b");
        for (int kind : new int[] {LEAST, -1, 10, 11, MOST}) {
            CHECK.due("kind " + kind, x.begin(kind, 0, 0), REFUSED);
        }
        for (int kind = 0; kind < 10; kind++) {
            CHECK.due("kind " + kind, x.begin(kind, 0, 0), kind);
        }
        CHECK.due("operations", x.count(3), 10);
    }

    private static void name0MustNotBeEmpty() {
        StripedStore x = new StripedStore(3, 2, 1);
        Hand.name(x, 1, "b");
        for (int kind = 0; kind < 9; kind++) {
            CHECK.due("kind " + kind, x.begin(kind, 0, 0), REFUSED);
        }
        CHECK.due("next", x.begin(Hand.NEXT, 0, 0), 0);
        Hand.name(x, 0, "a");
        for (int kind = 0; kind < 10; kind++) {
            CHECK.due("kind " + kind, x.begin(kind, 0, 0), kind + 1);
        }
    }

    private static void name1MustNotBeEmptyForTwoKinds() {
        StripedStore x = new StripedStore(3, 2, 1);
        Hand.name(x, 0, "a");
        int begun = 0;
        for (int kind = 0; kind < 10; kind++) {
            boolean two = kind == Hand.RENAME || kind == Hand.SWAP;
            CHECK.due("kind " + kind, x.begin(kind, 0, 0), two ? REFUSED : begun);
            begun += two ? 0 : 1;
        }
        Hand.name(x, 1, "b");
        CHECK.due("rename", x.begin(Hand.RENAME, 0, 0), begun);
        CHECK.due("swap", x.begin(Hand.SWAP, 0, 0), begun + 1);
    }

    private static void placesAre0To8192() {
        for (int kind : new int[] {Hand.WRITE, Hand.CUT, Hand.READ}) {
            StripedStore x = new StripedStore(3, 2, 1);
            Hand.name(x, 0, "a");
            for (int a : new int[] {LEAST, -8192, -1, 8193, 8194, 65536, MOST}) {
                CHECK.due("kind " + kind + " at " + a, x.begin(kind, a, 0), REFUSED);
            }
            CHECK.due("operations", x.count(3), 0);
            int[] right = {0, 1, 8191, 8192};
            for (int i = 0; i < right.length; i++) {
                CHECK.due("kind " + kind + " at " + right[i], x.begin(kind, right[i], 0), i);
            }
        }
    }

    private static void lengthsAre0To2048() {
        StripedStore x = new StripedStore(3, 2, 1);
        Hand.name(x, 0, "a");
        for (int b : new int[] {LEAST, -2048, -1, 2049, 2050, 8192, MOST}) {
            CHECK.due("read of " + b, x.begin(Hand.READ, 0, b), REFUSED);
            CHECK.due("read at 8192 of " + b, x.begin(Hand.READ, 8192, b), REFUSED);
        }
        CHECK.due("operations", x.count(3), 0);
        int[] right = {0, 1, 2047, 2048};
        for (int i = 0; i < right.length; i++) {
            CHECK.due("read of " + right[i], x.begin(Hand.READ, 8192, right[i]), i);
        }
    }

    private static void whatAKindDoesNotHaveIsNotLookedAt() {
        int[] odd = {LEAST, -1, 2049, 8193, MOST};
        for (int kind = 0; kind < 10; kind++) {
            StripedStore x = new StripedStore(3, 2, 1);
            Hand.name(x, 0, "a");
            Hand.name(x, 1, "b");
            boolean hasA = kind == Hand.WRITE || kind == Hand.CUT || kind == Hand.READ;
            for (int i = 0; i < odd.length; i++) {
                int a = hasA ? 8192 : odd[i];
                int b = kind == Hand.READ ? 2048 : odd[odd.length - 1 - i];
                CHECK.due("kind " + kind + " of " + a + " " + b, x.begin(kind, a, b), i);
            }
            CHECK.due("settle", x.settle(), odd.length);
        }
    }

    private static void twelveMayHaveNoAnswer() {
        StripedStore x = new StripedStore(3, 2, 1);
        Hand.name(x, 0, "a");
        for (int round = 0; round < 3; round++) {
            for (int i = 0; i < 12; i++) {
                CHECK.due("begin", x.begin(Hand.SIZE, 0, 0), 12 * round + i);
                CHECK.due("without an answer", x.count(4), i + 1);
            }
            CHECK.due("the 13th", x.begin(Hand.SIZE, 0, 0), FULL);
            CHECK.due("the 14th", x.begin(Hand.NEXT, 0, 0), FULL);
            CHECK.due("operations", x.count(3), 12 * (round + 1));
            CHECK.due("without an answer", x.count(4), 12);
            CHECK.due("no answer", x.answer(12 * (round + 1)), REFUSED);
            CHECK.due("settle", x.settle(), 12);
            CHECK.due("without an answer", x.count(4), 0);
        }
    }

    private static void refusedIsTestedBeforeFull() {
        StripedStore x = new StripedStore(3, 2, 1);
        Hand.name(x, 0, "a");
        for (int i = 0; i < 12; i++) {
            x.begin(Hand.SIZE, 0, 0);
        }
        CHECK.due("full", x.begin(Hand.READ, 8192, 2048), FULL);
        CHECK.due("kind", x.begin(10, 0, 0), REFUSED);
        CHECK.due("kind", x.begin(-1, 0, 0), REFUSED);
        CHECK.due("place", x.begin(Hand.WRITE, 8193, 0), REFUSED);
        CHECK.due("length", x.begin(Hand.READ, 0, 2049), REFUSED);
        CHECK.due("name 1", x.begin(Hand.SWAP, 0, 0), REFUSED);
        x.name(0);
        CHECK.due("name 0", x.begin(Hand.SIZE, 0, 0), REFUSED);
        CHECK.due("full", x.begin(Hand.NEXT, 0, 0), FULL);
    }

    private static void aFullBeginKeepsTheTape() {
        StripedStore x = new StripedStore(3, 2, 1);
        Hand.name(x, 0, "a");
        for (int i = 0; i < 12; i++) {
            x.begin(Hand.SIZE, 0, 0);
        }
        Hand.tape(x, "tape");
        CHECK.due("write", x.begin(Hand.WRITE, 0, 0), FULL);
        CHECK.due("append", x.begin(Hand.APPEND, 0, 0), FULL);
        CHECK.due("tape", x.count(9), 4);
        x.settle();
        CHECK.due("number", x.begin(Hand.APPEND, 0, 0), 12);
        x.settle();
        CHECK.due("written once", Hand.read(x, "a", 0, 99).equals("tape"), true);
    }

    private static void aRefusedBeginKeepsTheTape() {
        StripedStore x = new StripedStore(3, 2, 1);
        Hand.name(x, 0, "a");
        x.settle();
        Hand.tape(x, "tape");
        CHECK.due("write", x.begin(Hand.WRITE, 8193, 0), REFUSED);
        CHECK.due("write", x.begin(Hand.WRITE, -1, 0), REFUSED);
        CHECK.due("tape", x.count(9), 4);
        CHECK.due("operations", x.count(3), 0);
        CHECK.due("calm", x.count(10), 1);
        CHECK.due("write", x.begin(Hand.WRITE, 8188, 0), 0);
        CHECK.due("tape", x.count(9), 0);
        x.settle();
        CHECK.due("answer", x.answer(0), 4);
    }

    private static void onlyWriteAndAppendTakeTheTape() {
        StripedStore x = new StripedStore(3, 2, 1);
        Hand.name(x, 0, "a");
        Hand.name(x, 1, "b");
        Hand.tape(x, "tape");
        for (int kind : new int[] {0, 3, 4, 5, 6, 7, 8, 9}) {
            x.begin(kind, 0, 0);
            CHECK.due("tape of kind " + kind, x.count(9), 4);
        }
        x.begin(Hand.APPEND, 0, 0);
        CHECK.due("tape", x.count(9), 0);
        Hand.tape(x, "tape");
        x.begin(Hand.WRITE, 0, 0);
        CHECK.due("tape", x.count(9), 0);
    }
}
