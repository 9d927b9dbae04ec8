/** Promises 11 to 15: crash, restart, map, replace, settle. */
public final class FailuresTest {
    private static final Check CHECK = new Check("FailuresTest");

    public static void main(String[] args) {
        crashAndRestart();
        crashTearsBlocks();
        crashOfAll();
        whatIsFlushedStays();
        maps();
        tooFewNodes();
        moves();
        replaceCounts();
        replaceLosesTheDisk();
        doneAndThenReplaced();
        settles();
        settleWithEverythingWrong();
        CHECK.end();
    }

    private static void crashAndRestart() {
        StripedStore x = new StripedStore(4, 2, 3);
        x.settle();
        for (int n : new int[] {-1, 4, Integer.MIN_VALUE, Integer.MAX_VALUE}) {
            CHECK.due("crash " + n, x.crash(n, -1, 5), false);
            CHECK.due("restart " + n, x.restart(n), false);
        }
        CHECK.due("restart of one that is up", x.restart(1), false);
        CHECK.due("calm", x.count(10), 1);
        CHECK.due("crash", x.crash(1, 0, Integer.MIN_VALUE), true);
        CHECK.due("not calm", x.count(10), 0);
        CHECK.due("crash again", x.crash(1, 0, 0), false);
        CHECK.due("up", x.count(6), 3);
        CHECK.due("restart", x.restart(1), true);
        CHECK.due("restart again", x.restart(1), false);
        CHECK.due("up", x.count(6), 4);
        x.settle();
        x.crash(2, -1, Integer.MAX_VALUE);
        CHECK.due("settle", x.settle(), 0);
        CHECK.due("settle restarts", x.count(6), 4);
        CHECK.due("restart of one that settle restarted", x.restart(2), false);
    }

    /** Every length of what stands of a block that was being written, with and without the others. */
    private static void crashTearsBlocks() {
        for (int part = -3; part <= 515; part += part < 20 ? 1 : 31) {
            for (int mask = -1; mask < 3; mask++) {
                StripedStore x = new StripedStore(3, 3, 1);
                x.settle();
                Hand.write(x, "a", 10, Hand.times("0123456789", 50));
                boolean torn = untilNotFlushed(x);
                CHECK.due("blocks are written and not flushed", torn, true);
                for (int n = 0; n < 3; n++) {
                    x.crash(n, mask, part);
                }
                CHECK.due("settle", x.settle(), 1);
                CHECK.due("answer", x.answer(0), 500);
                CHECK.due("audit with part " + part + " and mask " + mask, x.audit(), 0);
                CHECK.due("byte", x.onDisk(0, 0, 2, 447), '7');
                CHECK.due("byte", x.onDisk(0, 0, 0, 9), 0);
            }
        }
    }

    private static boolean untilNotFlushed(StripedStore x) {
        for (int i = 0; i < 200; i++) {
            if (Inside.notFlushed(x, 0) > 0 && Inside.notFlushed(x, 1) > 0 && Inside.notFlushed(x, 2) > 0) {
                return true;
            }
            x.deliver(0);
            if (Inside.underWay(x) == 0) {
                x.tick(1);
            }
        }
        return false;
    }

    private static void crashOfAll() {
        StripedStore x = new StripedStore(5, 2, 7);
        Hand.write(x, "kept", 1000, Hand.times("k", 2000));
        for (int round = 0; round < 30; round++) {
            x.tick(1);
            x.stir(40, round);
            x.crash(round % 5, round * 77, round * 19);
            x.restart((round + 2) % 5);
        }
        for (int n = 0; n < 5; n++) {
            x.crash(n, 0, 0);
        }
        CHECK.due("up", x.count(6), 0);
        CHECK.due("settle", x.settle(), 1);
        CHECK.due("answer", x.answer(0), 2000);
        CHECK.due("read", Hand.read(x, "kept", 2990, 100).equals(Hand.times("k", 10)), true);
    }

    private static void whatIsFlushedStays() {
        StripedStore x = new StripedStore(3, 3, 2);
        Hand.append(x, "a", "once");
        Hand.busy(x, 40);
        CHECK.due("heard of before settle", Inside.heard(x), 1);
        for (int n = 0; n < 3; n++) {
            x.crash(n, 0, 0);
            x.restart(n);
        }
        CHECK.due("settle", x.settle(), 1);
        CHECK.due("answer", x.answer(0), 4);
        CHECK.due("read", Hand.read(x, "a", 0, 100).equals("once"), true);
    }

    private static void maps() {
        StripedStore x = new StripedStore(4, 3, 3);
        x.settle();
        CHECK.due("map", x.map(15), 3);
        CHECK.due("not calm", x.count(10), 0);
        CHECK.due("map of the same", x.map(15), 4);
        CHECK.due("map of one", x.map(1), 5);
        CHECK.due("in", x.count(7), 1);
        CHECK.due("map of none", x.map(0), 6);
        CHECK.due("in", x.count(7), 0);
        CHECK.due("map of nodes that are not there", x.map(-1), 7);
        CHECK.due("in", x.count(7), 15);
        CHECK.due("map", x.map(Integer.MIN_VALUE), 8);
        CHECK.due("in", x.count(7), 0);
        for (int n = 0; n < 4; n++) {
            CHECK.due("not heard of yet by node " + n, Inside.epochOf(x, n), 2);
        }
        Hand.busy(x, 60);
        for (int n = 0; n < 4; n++) {
            CHECK.due("heard of by node " + n, Inside.epochOf(x, n), 8);
        }
        CHECK.due("settle", x.settle(), 0);
        CHECK.due("epoch", x.count(5), 9);
        CHECK.due("in", x.count(7), 15);
    }

    private static void tooFewNodes() {
        StripedStore x = new StripedStore(4, 3, 3);
        x.settle();
        x.map(5);
        Hand.op(x, Hand.MAKE, "a");
        Hand.busy(x, 40);
        CHECK.due("no group works with two nodes in", Inside.heard(x), 0);
        x.map(7);
        x.crash(0, 0, 0);
        x.crash(3, 0, 0);
        Hand.busy(x, 40);
        CHECK.due("no group works with two nodes up", Inside.heard(x), 0);
        x.restart(0);
        Hand.busy(x, 40);
        CHECK.due("with three it works", Inside.heard(x), 1);
        CHECK.due("settle", x.settle(), 1);
        CHECK.due("answer", x.answer(0), 0);
    }

    /** All moves to the nodes that are in, and what was there before goes, though no call of settle sees to it. */
    private static void moves() {
        StripedStore x = new StripedStore(6, 2, 16);
        Hand.write(x, "a", 0, Hand.times("x", 2000));
        x.settle();
        x.map(3);
        Hand.busy(x, 100);
        for (int n = 0; n < 6; n++) {
            CHECK.due("blocks of node " + n, Inside.blocks(x, n), n < 2 ? 7 : 0);
        }
        for (int n = 2; n < 6; n++) {
            x.crash(n, 0, 0);
        }
        int size = Hand.op(x, Hand.SIZE, "a");
        Hand.busy(x, 30);
        CHECK.due("works with the two", Inside.heard(x), 2);
        CHECK.due("settle", x.settle(), 1);
        CHECK.due("answer", x.answer(size), 2000);
        CHECK.due("audit", x.audit(), 0);
    }

    private static void replaceCounts() {
        for (int copies = 2; copies <= 3; copies++) {
            StripedStore x = new StripedStore(5, copies, 4);
            x.settle();
            for (int n = -1; n <= 5; n++) {
                CHECK.due("replace of one that is not down", x.replace(n), false);
            }
            CHECK.due("calm", x.count(10), 1);
            x.crash(3, 0, 0);
            for (int i = 1; i < copies; i++) {
                CHECK.due("replace", x.replace(3), true);
                CHECK.due("replaced", x.count(8), i);
                CHECK.due("epoch", x.count(5), 2 + i);
            }
            CHECK.due("replace once too often", x.replace(3), false);
            x.crash(4, 0, 0);
            CHECK.due("replace of another", x.replace(4), false);
            CHECK.due("epoch", x.count(5), 1 + copies);
            CHECK.due("in", x.count(7), 31);
            CHECK.due("still down", x.count(6), 3);
            x.settle();
            CHECK.due("replaced since settle", x.count(8), 0);
            x.crash(4, 0, 0);
            CHECK.due("replace after settle", x.replace(4), true);
        }
    }

    private static void replaceLosesTheDisk() {
        StripedStore x = new StripedStore(3, 3, 1);
        Hand.write(x, "a", 0, Hand.times("y", 1000));
        x.settle();
        x.crash(0, -1, 0);
        x.crash(2, -1, 0);
        CHECK.due("blocks", Inside.blocks(x, 0), 5);
        x.replace(0);
        x.replace(2);
        CHECK.due("blocks", Inside.blocks(x, 0), 0);
        CHECK.due("settle", x.settle(), 0);
        CHECK.due("holds", x.holds(0), 3);
        CHECK.due("holds", x.holds(2), 3);
        CHECK.due("byte", x.onDisk(0, 2, 0, 103), 'y');
        CHECK.due("audit", x.audit(), 0);
    }

    /** What those who begin have heard of they do not ask for again: R - 1 disks may go, and it has to be there. */
    private static void doneAndThenReplaced() {
        for (int seed = 0; seed < 40; seed++) {
            int copies = 2 + seed % 2;
            StripedStore x = new StripedStore(3 + seed % 4, copies, 1 + seed % 5);
            x.settle();
            Hand.append(x, "log", "one,");
            Hand.append(x, "log", "two,");
            Hand.busy(x, 60);
            CHECK.due("heard", Inside.heard(x), 2);
            for (int i = 1; i < copies; i++) {
                int n = (seed / 2 + i) % x.count(6);
                x.crash(n, 0, 0);
                CHECK.due("replace", x.replace(n), true);
                x.restart(n);
                Hand.busy(x, seed % 3);
            }
            Hand.append(x, "log", "three");
            CHECK.due("settle", x.settle(), 3);
            CHECK.due("read", Hand.read(x, "log", 0, 99).equals("one,two,three"), true);
            CHECK.due("audit", x.audit(), 0);
        }
    }

    private static void settles() {
        StripedStore x = new StripedStore(4, 2, 3);
        CHECK.due("settle", x.settle(), 0);
        CHECK.due("settle", x.settle(), 0);
        CHECK.due("epoch", x.count(5), 3);
        for (int i = 0; i < 12; i++) {
            Hand.op(x, Hand.MAKE, "f" + i);
        }
        CHECK.due("settle", x.settle(), 12);
        CHECK.due("calm", x.count(10), 1);
        CHECK.due("without an answer", x.count(4), 0);
        CHECK.due("nothing is under way", Inside.underWay(x), 0);
        CHECK.due("settle", x.settle(), 0);
    }

    private static void settleWithEverythingWrong() {
        StripedStore x = new StripedStore(6, 3, 16);
        x.settle();
        for (int i = 0; i < 12; i++) {
            Hand.write(x, "file " + i, 440 * i, Hand.times("0123456789abcdef", 20));
        }
        x.settle();
        for (int i = 0; i < 12; i++) {
            Hand.write(x, "file " + i, 200 * i, Hand.times("fedcba9876543210", 20));
            Hand.busy(x, 2);
            x.map(i * 11);
            x.crash(i % 6, i, i * 40);
            x.replace(i % 6);
        }
        x.map(0);
        CHECK.due("settle", x.settle(), 12);
        CHECK.due("up", x.count(6), 6);
        CHECK.due("in", x.count(7), 63);
        CHECK.due("audit", x.audit(), 0);
        CHECK.due("read", Hand.read(x, "file 9", 1796, 8).equals("\0\0\0\0fedc"), true);
    }
}
