/** The boundary cases of promises 16 to 23 (answer to count), one test for each sentence. */
public final class LookEdgesTest {
    private static final Check CHECK = new Check("LookEdgesTest");
    private static final int REFUSED = StripedStore.REFUSED, NONE = StripedStore.NONE, BUSY = StripedStore.BUSY;
    private static final int PENDING = StripedStore.PENDING;
    private static final int LEAST = Integer.MIN_VALUE, MOST = Integer.MAX_VALUE;

    public static void main(String[] args) {
        answersOfWhatWasBegun();
        answersStay();
        toldFromTheFirstToTheLast();
        toldOfTheMostBytes();
        toldOfTheLongestName();
        toldOfNoBytes();
        toldOfOthers();
        toldUntilTheNextSettle();
        toldWhileOthersAreBegun();
        whatsOfAFile();
        filesFromTheFirstToTheLast();
        filesOfAnEmptyStore();
        filesOf48();
        fileIsRefusedFirst();
        whereOfTheLastStripe();
        whereOfCopies();
        whereOfWhatIsNotLaid();
        whereIsBusyFirst();
        onDiskFromTheFirstToTheLast();
        onDiskOfTheLastStripe();
        onDiskOfWhatIsNotLaid();
        onDiskAfterACut();
        holdsOfNodesThatAreThere();
        holdsIsRefusedFirst();
        holdsNothingAndAll();
        auditIsBusyOrNothing();
        auditSeesWhatIsMissing();
        auditSeesWhatIsUnlike();
        auditSeesWhatDoesNotBelong();
        countsAre0To10();
        countsAsOfTheLatestSettle();
        countsAtOnce();
        CHECK.end();
    }

    private static void answersOfWhatWasBegun() {
        StripedStore x = new StripedStore(3, 2, 1);
        for (int begun = 0; begun <= 12; begun++) {
            for (int operation : new int[] {LEAST, -1, begun, begun + 1, 511, 512, 513, MOST}) {
                CHECK.due("answer " + operation + " of " + begun, x.answer(operation), REFUSED);
            }
            for (int operation = 0; operation < begun; operation++) {
                CHECK.due("answer " + operation + " of " + begun, x.answer(operation), PENDING);
            }
            Hand.op(x, Hand.MAKE, "f" + begun);
        }
        x.settle();
        CHECK.due("the first", x.answer(0), 0);
        CHECK.due("the last", x.answer(11), 0);
        CHECK.due("one more", x.answer(12), REFUSED);
    }

    private static void answersStay() {
        StripedStore x = new StripedStore(3, 2, 1);
        for (int round = 0; round < 5; round++) {
            for (int i = 0; i < 12; i++) {
                Hand.append(x, "a", Hand.times("x", i + 1));
            }
            x.settle();
            Hand.op(x, Hand.CUT, "a", round, 0);
            x.settle();
        }
        for (int operation = 0; operation < 65; operation++) {
            int due = operation % 13 < 12 ? operation % 13 + 1 : 78 + (operation < 13 ? 0 : operation / 13 - 1);
            CHECK.due("answer " + operation, x.answer(operation), due);
        }
    }

    private static void toldFromTheFirstToTheLast() {
        StripedStore x = new StripedStore(3, 2, 1);
        Hand.write(x, "a", 0, "\0\1\177\200\377");
        int read = Hand.op(x, Hand.READ, "a", 0, 5);
        x.settle();
        int[] due = {0, 1, 127, 128, 255};
        for (int i = 0; i < 5; i++) {
            CHECK.due("told " + i, x.told(read, i), due[i]);
        }
        for (int i : new int[] {LEAST, -1, 5, 6, 2047, 2048, 2049, MOST}) {
            CHECK.due("told " + i, x.told(read, i), NONE);
        }
    }

    private static void toldOfTheMostBytes() {
        StripedStore x = new StripedStore(3, 2, 4);
        Hand.write(x, "a", 100, Hand.times("0123456789abcdef", 128));
        int read = Hand.op(x, Hand.READ, "a", 100, 2048);
        x.settle();
        CHECK.due("answer", x.answer(read), 2048);
        for (int i = 0; i < 2048; i++) {
            CHECK.due("told " + i, x.told(read, i), "0123456789abcdef".charAt(i % 16));
        }
        CHECK.due("one more", x.told(read, 2048), NONE);
        CHECK.due("one less", x.told(read, -1), NONE);
    }

    private static void toldOfTheLongestName() {
        StripedStore x = new StripedStore(3, 2, 4);
        Hand.op(x, Hand.MAKE, Hand.times("n", 199) + "\377");
        int next = Hand.op(x, Hand.NEXT, "n");
        x.settle();
        CHECK.due("answer", x.answer(next), 200);
        CHECK.due("the first", x.told(next, 0), 'n');
        CHECK.due("the last", x.told(next, 199), 255);
        CHECK.due("one more", x.told(next, 200), NONE);
    }

    private static void toldOfNoBytes() {
        StripedStore x = new StripedStore(3, 2, 4);
        Hand.write(x, "a", 0, "abc");
        int[] ops = {Hand.op(x, Hand.READ, "a", 0, 0), Hand.op(x, Hand.READ, "a", 3, 9), Hand.op(x, Hand.READ, "b", 0, 9),
            Hand.op(x, Hand.NEXT, "a")};
        x.settle();
        int[] due = {0, 0, NONE, NONE};
        for (int i = 0; i < ops.length; i++) {
            CHECK.due("answer", x.answer(ops[i]), due[i]);
            CHECK.due("told", x.told(ops[i], 0), NONE);
            CHECK.due("told", x.told(ops[i], -1), NONE);
        }
    }

    private static void toldOfOthers() {
        StripedStore x = new StripedStore(3, 2, 4);
        Hand.write(x, "a", 0, "abc");
        Hand.append(x, "a", "def");
        Hand.op(x, Hand.CUT, "a", 5, 0);
        Hand.op(x, Hand.SIZE, "a");
        Hand.pair(x, Hand.RENAME, "a", "b");
        Hand.op(x, Hand.MAKE, "a");
        Hand.pair(x, Hand.SWAP, "a", "b");
        Hand.op(x, Hand.REMOVE, "a");
        x.settle();
        for (int operation = 0; operation < 8; operation++) {
            CHECK.due("answered", x.answer(operation) >= 0, true);
            CHECK.due("told of " + operation, x.told(operation, 0), NONE);
        }
        for (int operation : new int[] {LEAST, -1, 8, 9, 512, MOST}) {
            CHECK.due("told of " + operation, x.told(operation, 0), NONE);
        }
    }

    private static void toldUntilTheNextSettle() {
        StripedStore x = new StripedStore(3, 2, 4);
        Hand.write(x, "a", 0, "abc");
        int read = Hand.op(x, Hand.READ, "a", 0, 3);
        Hand.busy(x, 40);
        CHECK.due("heard", Inside.heard(x), 2);
        CHECK.due("before settle", x.told(read, 0), NONE);
        x.settle();
        CHECK.due("after it", x.told(read, 2), 'c');
        x.crash(0, 0, 0);
        x.map(0);
        CHECK.due("while the store is not calm", x.told(read, 2), 'c');
        x.settle();
        CHECK.due("after the next", x.told(read, 2), NONE);
        CHECK.due("but answered", x.answer(read), 3);
    }

    /** Twelve of before and twelve that are begun: none takes the place of another. */
    private static void toldWhileOthersAreBegun() {
        StripedStore x = new StripedStore(3, 2, 4);
        Hand.write(x, "a", 0, "0123456789ab");
        x.settle();
        for (int round = 0; round < 3; round++) {
            for (int i = 0; i < 12; i++) {
                Hand.op(x, Hand.READ, "a", i, 1);
            }
            x.settle();
            for (int i = 0; i < 12; i++) {
                Hand.op(x, Hand.READ, "a", 11 - i, 1);
            }
            Hand.busy(x, 40);
            for (int i = 0; i < 12; i++) {
                CHECK.due("told", x.told(1 + 24 * round + i, 0), "0123456789ab".charAt(i));
                CHECK.due("not yet", x.told(13 + 24 * round + i, 0), NONE);
            }
            x.settle();
            for (int i = 0; i < 12; i++) {
                CHECK.due("not now", x.told(1 + 24 * round + i, 0), NONE);
                CHECK.due("told", x.told(13 + 24 * round + i, 0), "0123456789ab".charAt(11 - i));
            }
        }
    }

    private static StripedStore three() {
        StripedStore x = new StripedStore(6, 3, 16);
        Hand.write(x, "m", 448 * 2 + 1, "mm");
        Hand.write(x, "zz", 0, Hand.times("0123456789", 90));
        Hand.op(x, Hand.MAKE, "abc");
        x.settle();
        return x;
    }

    private static void whatsOfAFile() {
        StripedStore x = three();
        for (int what : new int[] {LEAST, -1, 4, 5, MOST}) {
            CHECK.due("what " + what, x.file(0, what), REFUSED);
        }
        int[] due = {900, 1, 2, 3};
        for (int what = 0; what < 4; what++) {
            CHECK.due("what " + what, x.file(2, what), due[what]);
        }
    }

    private static void filesFromTheFirstToTheLast() {
        StripedStore x = three();
        for (int k : new int[] {LEAST, -1, 3, 4, 47, 48, 49, MOST}) {
            for (int what = 0; what < 4; what++) {
                CHECK.due("file " + k, x.file(k, what), NONE);
            }
        }
        int[] ids = {2, 0, 1};
        for (int k = 0; k < 3; k++) {
            CHECK.due("file " + k, x.file(k, 1), ids[k]);
        }
    }

    private static void filesOfAnEmptyStore() {
        StripedStore x = new StripedStore(3, 2, 1);
        x.settle();
        for (int what = 0; what < 4; what++) {
            CHECK.due("file 0", x.file(0, what), NONE);
        }
        CHECK.due("where", x.where(0, 0, 0), NONE);
        CHECK.due("onDisk", x.onDisk(0, 0, 0, 0), NONE);
        CHECK.due("audit", x.audit(), 0);
    }

    private static void filesOf48() {
        StripedStore x = new StripedStore(3, 2, 1);
        for (int i = 0; i < 48; i++) {
            Hand.write(x, "" + (char) (255 - i), 0, Hand.times("x", i + 1));
            if (i % 12 == 11) {
                x.settle();
            }
        }
        for (int k = 0; k < 48; k++) {
            CHECK.due("length of file " + k, x.file(k, 0), 48 - k);
            CHECK.due("id of file " + k, x.file(k, 1), 47 - k);
            CHECK.due("name of file " + k, x.file(k, 2), 1);
            CHECK.due("stripes of file " + k, x.file(k, 3), 1);
        }
        CHECK.due("file 48", x.file(48, 0), NONE);
        CHECK.due("where", x.where(47, 0, 1) >= 0, true);
        CHECK.due("where", x.where(48, 0, 1), NONE);
        CHECK.due("audit", x.audit(), 0);
    }

    private static void fileIsRefusedFirst() {
        StripedStore x = new StripedStore(3, 2, 1);
        CHECK.due("refused, then busy", x.file(0, 4), REFUSED);
        CHECK.due("refused, then busy", x.file(-1, -1), REFUSED);
        CHECK.due("busy, then none", x.file(-1, 0), BUSY);
        CHECK.due("busy, then none", x.file(48, 3), BUSY);
        x.settle();
        CHECK.due("refused, then none", x.file(-1, 4), REFUSED);
        CHECK.due("none", x.file(-1, 0), NONE);
    }

    private static StripedStore longest() {
        StripedStore x = new StripedStore(6, 3, 16);
        for (int part = 0; part < 4; part++) {
            Hand.write(x, "long", 2048 * part, Hand.times("" + (char) ('a' + part), 2048));
        }
        x.settle();
        return x;
    }

    private static void whereOfTheLastStripe() {
        StripedStore x = longest();
        CHECK.due("stripes", x.file(0, 3), 19);
        for (int s = 0; s < 19; s++) {
            for (int r = 0; r < 3; r++) {
                CHECK.due("where " + s + " " + r, x.where(0, s, r), Hand.nodeOf(s * 7 % 16, r));
            }
        }
        for (int s : new int[] {LEAST, -1, 19, 20, MOST}) {
            CHECK.due("where " + s, x.where(0, s, 0), NONE);
        }
    }

    private static void whereOfCopies() {
        for (int copies = 2; copies <= 3; copies++) {
            StripedStore x = new StripedStore(4, copies, 2);
            Hand.write(x, "a", 0, "x");
            x.settle();
            for (int r = 0; r < copies; r++) {
                CHECK.due("copy " + r, x.where(0, 0, r), Hand.nodeOf(0, r, 15));
                CHECK.due("byte of copy " + r, x.onDisk(0, 0, r, 0), 'x');
            }
            for (int r : new int[] {LEAST, -1, copies, copies + 1, MOST}) {
                CHECK.due("copy " + r, x.where(0, 0, r), NONE);
                CHECK.due("byte of copy " + r, x.onDisk(0, 0, r, 0), NONE);
            }
        }
    }

    private static void whereOfWhatIsNotLaid() {
        StripedStore x = three();
        CHECK.due("a file without bytes", x.where(0, 0, 0), NONE);
        CHECK.due("before what was written", x.where(1, 1, 0), NONE);
        CHECK.due("what was written", x.where(1, 2, 0), Hand.nodeOf(14, 0));
        CHECK.due("behind the end", x.where(1, 3, 0), NONE);
        CHECK.due("the last one", x.where(2, 2, 0), Hand.nodeOf(45 % 16, 0));
        for (int k : new int[] {LEAST, -1, 3, 47, 48, MOST}) {
            CHECK.due("file " + k, x.where(k, 0, 0), NONE);
        }
    }

    private static void whereIsBusyFirst() {
        StripedStore x = new StripedStore(3, 2, 1);
        CHECK.due("where", x.where(LEAST, LEAST, LEAST), BUSY);
        CHECK.due("where", x.where(MOST, MOST, MOST), BUSY);
        CHECK.due("onDisk", x.onDisk(LEAST, LEAST, LEAST, LEAST), BUSY);
        CHECK.due("onDisk", x.onDisk(MOST, MOST, MOST, MOST), BUSY);
        x.settle();
        CHECK.due("where", x.where(MOST, MOST, MOST), NONE);
        CHECK.due("onDisk", x.onDisk(MOST, MOST, MOST, MOST), NONE);
    }

    private static void onDiskFromTheFirstToTheLast() {
        StripedStore x = three();
        for (int s = 0; s < 2; s++) {
            CHECK.due("the first", x.onDisk(2, s, 0, 0), '0' + s * 448 % 10);
            CHECK.due("the last", x.onDisk(2, s, 2, 447), '0' + (s * 448 + 447) % 10);
            for (int i : new int[] {LEAST, -1, 448, 449, 512, MOST}) {
                CHECK.due("byte " + i, x.onDisk(2, s, 0, i), NONE);
            }
        }
        CHECK.due("the last of all", x.onDisk(2, 2, 0, 3), '9');
        CHECK.due("one more", x.onDisk(2, 2, 0, 4), NONE);
        CHECK.due("before what was written", x.onDisk(1, 2, 0, 0), 0);
        CHECK.due("what was written", x.onDisk(1, 2, 0, 2), 'm');
        CHECK.due("one more", x.onDisk(1, 2, 0, 3), NONE);
    }

    private static void onDiskOfTheLastStripe() {
        StripedStore x = longest();
        CHECK.due("the first", x.onDisk(0, 18, 1, 0), 'd');
        CHECK.due("the last of 8192", x.onDisk(0, 18, 1, 127), 'd');
        CHECK.due("one more", x.onDisk(0, 18, 1, 128), NONE);
        CHECK.due("another stripe", x.onDisk(0, 19, 1, 0), NONE);
    }

    private static void onDiskOfWhatIsNotLaid() {
        StripedStore x = three();
        CHECK.due("a file without bytes", x.onDisk(0, 0, 0, 0), NONE);
        CHECK.due("before what was written", x.onDisk(1, 1, 0, 0), NONE);
        CHECK.due("behind the end", x.onDisk(1, 3, 0, 0), NONE);
        for (int k : new int[] {LEAST, -1, 3, 48, MOST}) {
            CHECK.due("file " + k, x.onDisk(k, 0, 0, 0), NONE);
        }
        for (int s : new int[] {LEAST, -1, 3, 19, MOST}) {
            CHECK.due("stripe " + s, x.onDisk(2, s, 0, 0), NONE);
        }
    }

    private static void onDiskAfterACut() {
        StripedStore x = new StripedStore(3, 2, 1);
        Hand.write(x, "a", 0, Hand.times("x", 900));
        Hand.op(x, Hand.CUT, "a", 449, 0);
        x.settle();
        CHECK.due("the last", x.onDisk(0, 1, 0, 0), 'x');
        CHECK.due("cut off", x.onDisk(0, 1, 0, 1), NONE);
        Hand.op(x, Hand.CUT, "a", 451, 0);
        x.settle();
        CHECK.due("the last that was kept", x.onDisk(0, 1, 0, 0), 'x');
        CHECK.due("a new one", x.onDisk(0, 1, 0, 1), 0);
        CHECK.due("the last new one", x.onDisk(0, 1, 0, 2), 0);
        CHECK.due("one more", x.onDisk(0, 1, 0, 3), NONE);
    }

    private static void holdsOfNodesThatAreThere() {
        for (int nodes = 3; nodes <= 6; nodes++) {
            StripedStore x = new StripedStore(nodes, 2, 1);
            x.settle();
            CHECK.due("the first", x.holds(0), 0);
            CHECK.due("the last", x.holds(nodes - 1), 0);
            for (int n : new int[] {LEAST, -1, nodes, nodes + 1, MOST}) {
                CHECK.due("holds " + n, x.holds(n), REFUSED);
            }
        }
    }

    private static void holdsIsRefusedFirst() {
        StripedStore x = new StripedStore(4, 2, 1);
        CHECK.due("refused, then busy", x.holds(4), REFUSED);
        CHECK.due("refused, then busy", x.holds(-1), REFUSED);
        CHECK.due("busy", x.holds(3), BUSY);
        CHECK.due("busy", x.holds(0), BUSY);
    }

    private static void holdsNothingAndAll() {
        StripedStore x = new StripedStore(3, 3, 16);
        for (int i = 0; i < 4; i++) {
            for (int part = 0; part < 4; part++) {
                Hand.write(x, "f" + i, 2048 * part, Hand.times("x", 2048));
            }
            x.settle();
        }
        CHECK.due("bytes", x.count(1), 32768);
        CHECK.due("laid", x.count(2), 76);
        for (int n = 0; n < 3; n++) {
            CHECK.due("all stripes of the fullest store", x.holds(n), 76);
        }
        for (int i = 0; i < 4; i++) {
            Hand.op(x, Hand.CUT, "f" + i, 0, 0);
        }
        x.settle();
        for (int n = 0; n < 3; n++) {
            CHECK.due("nothing", x.holds(n), 0);
        }
        CHECK.due("audit", x.audit(), 0);
    }

    private static void auditIsBusyOrNothing() {
        StripedStore x = new StripedStore(3, 2, 1);
        CHECK.due("audit", x.audit(), BUSY);
        x.settle();
        CHECK.due("audit", x.audit(), 0);
        CHECK.due("audit again", x.audit(), 0);
        x.tick(1);
        CHECK.due("audit", x.audit(), BUSY);
        x.settle();
        CHECK.due("audit", x.audit(), 0);
    }

    /** Every block of every disk is a stripe, or a name and what belongs to it: without it one is missing. */
    private static void auditSeesWhatIsMissing() {
        StripedStore x = three();
        int blocks = 0;
        for (int n = 0; n < 6; n++) {
            int[] words = Inside.disk(x, n);
            for (int at = 0; at < words.length; at += 128) {
                if (words[at] != 0) {
                    int was = words[at];
                    words[at] = 0;
                    CHECK.due("one is missing on node " + n, x.audit(), 1);
                    words[at] = was;
                    blocks++;
                }
            }
        }
        CHECK.due("audit", x.audit(), 0);
        CHECK.due("four stripes, three names and what they belong to, each in three copies", blocks, 24);
    }

    private static void auditSeesWhatIsUnlike() {
        StripedStore x = three();
        for (int n = 0; n < 6; n++) {
            int[] words = Inside.disk(x, n);
            for (int at = 0; at < words.length; at += 128) {
                for (int w = 15; w < 127 && words[at] != 0; w += 37) {
                    words[at + w] ^= 1 << w % 32;
                    CHECK.due("one or two are unlike the first", x.audit() > 0, true);
                    words[at + w] ^= 1 << w % 32;
                }
            }
        }
        CHECK.due("audit", x.audit(), 0);
    }

    /** A copy of any block on another node, or a second time on the same. */
    private static void auditSeesWhatDoesNotBelong() {
        StripedStore x = three();
        for (int n = 0; n < 6; n++) {
            int[] words = Inside.disk(x, n);
            for (int at = 0; at < words.length; at += 128) {
                for (int to = 0; to < 6 && words[at] != 0; to++) {
                    int[] others = Inside.disk(x, to);
                    boolean there = false;
                    for (int i = 0; i < others.length; i += 128) {
                        there |= others[i] != 0 && others[i + 1] == words[at + 1];
                    }
                    if (to == n || !there) {
                        int free = others.length - 128;
                        System.arraycopy(words, at, others, free, 128);
                        CHECK.due("one too many on node " + to, x.audit(), 1);
                        others[free] = 0;
                    }
                }
            }
        }
        CHECK.due("audit", x.audit(), 0);
    }

    private static void countsAre0To10() {
        StripedStore x = three();
        for (int what : new int[] {LEAST, -2, -1, 11, 12, MOST}) {
            CHECK.due("count " + what, x.count(what), REFUSED);
        }
        int[] due = {3, 1799, 4, 3, 0, 2, 6, 63, 0, 0, 1};
        for (int what = 0; what < due.length; what++) {
            CHECK.due("count " + what, x.count(what), due[what]);
        }
    }

    private static void countsAsOfTheLatestSettle() {
        StripedStore x = three();
        Hand.op(x, Hand.REMOVE, "zz");
        Hand.write(x, "new", 0, "x");
        Hand.write(x, "newer", 0, "x");
        Hand.busy(x, 60);
        CHECK.due("heard", Inside.heard(x), 6);
        CHECK.due("files", x.count(0), 3);
        CHECK.due("bytes", x.count(1), 1799);
        CHECK.due("laid", x.count(2), 4);
        x.settle();
        CHECK.due("files", x.count(0), 4);
        CHECK.due("bytes", x.count(1), 901);
        CHECK.due("laid", x.count(2), 3);
    }

    private static void countsAtOnce() {
        StripedStore x = three();
        Hand.op(x, Hand.SIZE, "zz");
        CHECK.due("operations", x.count(3), 4);
        CHECK.due("without an answer", x.count(4), 1);
        x.map(5);
        CHECK.due("epoch", x.count(5), 3);
        CHECK.due("in", x.count(7), 5);
        x.crash(5, 0, 0);
        CHECK.due("up", x.count(6), 5);
        x.replace(5);
        CHECK.due("replaced", x.count(8), 1);
        CHECK.due("epoch", x.count(5), 4);
        x.replace(5);
        CHECK.due("replaced", x.count(8), 2);
        x.replace(5);
        CHECK.due("replaced", x.count(8), 2);
        CHECK.due("epoch", x.count(5), 5);
        x.feed(0, 0, 0, 0, 0);
        CHECK.due("tape", x.count(9), 20);
        CHECK.due("calm", x.count(10), 0);
    }
}
