import java.util.function.IntPredicate;

/**
 * Runs in which messages come in just the order that would do harm if one rule of the store did not hold: each test is
 * for one rule. With four nodes and two copies, group 0 is on the nodes 1 and 3, and on 2 and 0 if only they are in;
 * the first of the two leads.
 */
public final class WorstOrderTest {
    private static final Check CHECK = new Check("WorstOrderTest");
    private static final int ASK = 2, LIST = 4, LISTED = 5, SEND = 9, PUT = 10, DROP = 12, MESSAGES = 10000;
    private static final int FIRST = 1 << 1 | 1 << 3, OTHERS = 1 << 2 | 1 << 0, ALL = 15;
    /** Tags from here on are those of roots. */
    private static final int ROOTS = 512 * 20 * 512;

    public static void main(String[] args) {
        whatIsNotFlushedIsNotListed();
        whatIsNotFlushedIsNotTold();
        ordersOfAnOldMapAreNotHeard();
        theOldStaysUntilTheNewRootIsOnAll();
        copiesStayUntilAllOthersAreThere();
        nothingGoesWhileAnOperationIsUnderWay();
        anOldRootIsSeen();
        CHECK.end();
    }

    private static StripedStore withFile() {
        StripedStore x = new StripedStore(4, 2, 1);
        x.settle();
        Hand.write(x, "a", 0, "old");
        x.settle();
        return x;
    }

    private static void endsWith(StripedStore x, String what, String bytes) {
        CHECK.due(what + ": settle", x.settle() >= 0, true);
        CHECK.due(what + ": audit", x.audit(), 0);
        CHECK.due(what + ": files", x.count(0), 1);
        CHECK.due(what + ": " + bytes, Hand.read(x, "a", 0, 9).equals(bytes), true);
    }

    /** All messages come for which it holds, and those that come of them; the others stay under way. */
    private static void pass(StripedStore x, IntPredicate which) {
        int k = 0;
        for (int i = 0; i < MESSAGES && k < Inside.underWay(x); i++) {
            if (which.test(k)) {
                x.deliver(k);
                k = 0;
            } else {
                k++;
            }
        }
    }

    private static void passKind(StripedStore x, int kind, int set) {
        pass(x, k -> is(x, k, kind, set));
    }

    private static void passAll(StripedStore x) {
        pass(x, k -> true);
    }

    private static boolean is(StripedStore x, int k, int kind, int set) {
        return Inside.kindOf(x, k) == kind && (set >> Inside.goalOf(x, k) & 1) != 0;
    }

    /** Ticks with all messages between them, but those for which it holds. */
    private static void time(StripedStore x, int ticks, IntPredicate held) {
        for (int i = 0; i < ticks; i++) {
            x.tick(1);
            pass(x, held.negate());
        }
    }

    private static boolean heldTag(StripedStore x, int k, int n, int from, int to) {
        int tag = Inside.tagOf(x, k);
        return is(x, k, PUT, 1 << n) && tag >= from && tag < to;
    }

    /** The leader asks the nodes of a set what they have; it hears that now, and will be told once more later. */
    private static void listNowAndLater(StripedStore x, int set) {
        for (int round = 0; round < 4; round++) {
            pass(x, k -> !is(x, k, LIST, set));
            int count = Inside.underWay(x);
            for (int k = 0; k < count; k++) {
                x.twice(k);
            }
        }
        pass(x, k -> !is(x, k, LIST, set));
    }

    private static int countKind(StripedStore x, int kind) {
        int n = 0;
        for (int k = 0; k < Inside.underWay(x); k++) {
            n += is(x, k, kind, ALL) ? 1 : 0;
        }
        return n;
    }

    private static void loseAll(StripedStore x) {
        while (Inside.underWay(x) > 0) {
            x.lose(0);
        }
    }

    /** The nodes to which all moves have written it, but not flushed: if they fail then, the first must still have it. */
    private static void whatIsNotFlushedIsNotListed() {
        StripedStore x = withFile();
        x.map(OTHERS);
        listNowAndLater(x, OTHERS);
        x.tick(1);
        passKind(x, SEND, ALL);
        passKind(x, PUT, OTHERS);
        CHECK.due("not flushed", Inside.notFlushed(x, 2) > 0 && Inside.notFlushed(x, 0) > 0, true);
        passKind(x, LIST, OTHERS);
        passKind(x, LISTED, ALL);
        passKind(x, LIST, FIRST);
        passKind(x, LISTED, ALL);
        passKind(x, DROP, FIRST);
        x.crash(2, 0, 0);
        x.crash(0, 0, 0);
        x.crash(1, -1, 0);
        x.crash(3, -1, 0);
        endsWith(x, "not flushed is not listed", "old");
    }

    /** What comes twice before it is flushed does not count as kept. */
    private static void whatIsNotFlushedIsNotTold() {
        StripedStore x = withFile();
        Hand.write(x, "a", 0, "new");
        for (int i = 0; i < MESSAGES && Inside.underWay(x) > 0; i++) {
            x.twice(0);
            x.deliver(0);
        }
        CHECK.due("not heard of", Inside.heard(x), 1);
        for (int n = 0; n < 4; n++) {
            x.crash(n, 0, 0);
        }
        endsWith(x, "not flushed is not told", "new");
    }

    /** An order to drop what has come to the others, which comes when it has gone back and the others have dropped it. */
    private static void ordersOfAnOldMapAreNotHeard() {
        StripedStore x = withFile();
        x.map(OTHERS);
        time(x, 8, k -> is(x, k, DROP, FIRST));
        x.map(ALL);
        time(x, 8, k -> is(x, k, DROP, FIRST));
        CHECK.due("the others have dropped it", Inside.blocks(x, 2) + Inside.blocks(x, 0), 0);
        int held = Inside.underWay(x);
        CHECK.due("orders are late", held > 0, true);
        passAll(x);
        x.tick(1);
        endsWith(x, "late orders", "old");
    }

    /** A new root on one node alone: with that node's disk it goes, and the old one has to be there. */
    private static void theOldStaysUntilTheNewRootIsOnAll() {
        StripedStore x = withFile();
        Hand.write(x, "a", 0, "new");
        IntPredicate held = k -> heldTag(x, k, 3, ROOTS, Integer.MAX_VALUE);
        time(x, 8, held);
        x.crash(1, 0, 0);
        x.restart(1);
        time(x, 8, k -> held.test(k) || is(x, k, ASK, ALL));
        CHECK.due("not heard of", Inside.heard(x), 1);
        loseAll(x);
        x.crash(1, 0, 0);
        x.replace(1);
        endsWith(x, "a root on one node", "new");
    }

    /** All has moved but one copy of one stripe: then the disk with the other one is lost. */
    private static void copiesStayUntilAllOthersAreThere() {
        StripedStore x = withFile();
        x.map(OTHERS);
        time(x, 12, k -> heldTag(x, k, 0, 0, 512));
        CHECK.due("the root has moved", Inside.blocks(x, 0), 2);
        loseAll(x);
        x.crash(2, 0, 0);
        x.replace(2);
        endsWith(x, "one copy has not moved", "old");
    }

    /** The leader is told what there is while it has begun to change it: all that was there is still wanted. */
    private static void nothingGoesWhileAnOperationIsUnderWay() {
        StripedStore x = withFile();
        x.map(ALL);
        listNowAndLater(x, FIRST);
        Hand.write(x, "a", 0, "new");
        pass(x, k -> !is(x, k, LIST, FIRST) && !is(x, k, PUT, FIRST));
        CHECK.due("two blocks go to two nodes", countKind(x, PUT), 4);
        passKind(x, LIST, FIRST);
        passKind(x, LISTED, ALL);
        passKind(x, DROP, FIRST);
        x.crash(1, -1, 0);
        x.crash(3, -1, 0);
        loseAll(x);
        endsWith(x, "a list while an operation is under way", "new");
    }

    /** The others never heard of what was done: they must not do what comes behind it as if it had not been. */
    private static void anOldRootIsSeen() {
        StripedStore x = withFile();
        x.map(OTHERS);
        time(x, 8, k -> false);
        x.map(FIRST);
        time(x, 8, k -> is(x, k, DROP, OTHERS));
        Hand.append(x, "a", "er");
        time(x, 8, k -> is(x, k, DROP, OTHERS));
        CHECK.due("done", Inside.heard(x), 2);
        x.map(OTHERS);
        x.crash(1, 0, 0);
        x.crash(3, 0, 0);
        Hand.append(x, "a", "est");
        time(x, 8, k -> is(x, k, DROP, OTHERS));
        CHECK.due("it waits", Inside.heard(x), 2);
        endsWith(x, "an old root", "olderest");
    }
}
