/**
 * Of the terms: until when the store is CALM, and that what answers REFUSED, FULL or false changes nothing: not one
 * element of the object.
 */
public final class CalmTest {
    private static final Check CHECK = new Check("CalmTest");
    private static final int REFUSED = StripedStore.REFUSED, FULL = StripedStore.FULL;
    private static final int LEAST = Integer.MIN_VALUE, MOST = Integer.MAX_VALUE;

    public static void main(String[] args) {
        whatEndsIt();
        whatDoesNotEndIt();
        looksChangeNothing();
        for (int kind = 0; kind < 5; kind++) {
            refusedChangesNothing(kind);
            fullChangesNothing(kind);
            falseChangesNothing(kind);
        }
        CHECK.end();
    }

    private static StripedStore calm() {
        StripedStore x = new StripedStore(4, 2, 3);
        Hand.write(x, "a", 0, Hand.times("x", 500));
        x.settle();
        Hand.name(x, 0, "a");
        Hand.name(x, 1, "b");
        CHECK.due("calm", x.count(10), 1);
        return x;
    }

    /** A call that ends it, by its number; false if there is no such call. */
    private static boolean end(StripedStore x, int call) {
        switch (call) {
            case 0: x.deliver(0); break;
            case 1: x.lose(0); break;
            case 2: x.twice(0); break;
            case 3: x.stir(1, 0); break;
            case 4: x.tick(1); break;
            case 5: x.crash(0, 0, 0); break;
            case 6: x.map(15); break;
            case 7: x.map(0); break;
            default:
                if (call > 17) {
                    return false;
                }
                CHECK.due("begin " + (call - 8), x.begin(call - 8, 0, 0), 1);
        }
        return true;
    }

    private static void whatEndsIt() {
        int call = 0;
        for (boolean more = true; more && call < 100; call++) {
            StripedStore x = calm();
            more = end(x, call);
            if (more) {
                CHECK.due("calm after call " + call, x.count(10), 0);
                CHECK.due("file", x.file(0, 0), StripedStore.BUSY);
                CHECK.due("where", x.where(0, 0, 0), StripedStore.BUSY);
                CHECK.due("onDisk", x.onDisk(0, 0, 0, 0), StripedStore.BUSY);
                CHECK.due("holds", x.holds(0), StripedStore.BUSY);
                CHECK.due("audit", x.audit(), StripedStore.BUSY);
                x.settle();
                CHECK.due("calm after settle", x.count(10), 1);
                CHECK.due("audit", x.audit(), 0);
            }
        }
        CHECK.due("calls", call, 19);
        restartAndReplaceEndIt();
    }

    /** A node is down only when the store is not calm already: so it is seen that they do not make it calm. */
    private static void restartAndReplaceEndIt() {
        StripedStore x = calm();
        x.crash(0, 0, 0);
        CHECK.due("replace", x.replace(0), true);
        CHECK.due("calm", x.count(10), 0);
        CHECK.due("restart", x.restart(0), true);
        CHECK.due("calm", x.count(10), 0);
        CHECK.due("settle", x.settle(), 0);
        CHECK.due("calm", x.count(10), 1);
    }

    private static void whatDoesNotEndIt() {
        StripedStore x = calm();
        x.feed(1, 2, 3, 4, 5);
        CHECK.due("calm after feed", x.count(10), 1);
        x.end(3);
        CHECK.due("calm after end", x.count(10), 1);
        x.name(0);
        CHECK.due("calm after name", x.count(10), 1);
        x.answer(0);
        x.told(0, 0);
        x.file(0, 0);
        x.where(0, 0, 0);
        x.onDisk(0, 0, 0, 0);
        x.holds(0);
        x.audit();
        x.count(0);
        CHECK.due("calm after looks", x.count(10), 1);
        x.settle();
        CHECK.due("calm after settle", x.count(10), 1);
    }

    private static void looksChangeNothing() {
        StripedStore x = calm();
        x.audit();
        String before = Inside.state(x);
        for (int what = -1; what < 12; what++) {
            x.count(what);
            x.file(what, what);
            x.where(what, what, what);
            x.onDisk(what, what, what, what);
            x.holds(what);
            x.answer(what);
            x.told(what, what);
        }
        x.audit();
        CHECK.due("the same", Inside.state(x).equals(before), true);
    }

    /** New; calm; busy; with operations that have no answer; with nodes that are down and replaced. */
    private static StripedStore state(int kind) {
        StripedStore x = kind == 0 ? new StripedStore(4, 2, 3) : calm();
        if (kind >= 2) {
            x.tick(2);
            x.stir(7, 3);
        }
        if (kind >= 3) {
            for (int i = 0; i < 12; i++) {
                Hand.write(x, "f" + i, 100 * i, Hand.times("y", 300));
            }
            x.tick(2);
            x.stir(20, 3);
        }
        if (kind >= 4) {
            x.crash(1, 1, 100);
            x.crash(2, 0, 0);
            x.replace(2);
            x.map(7);
        }
        return x;
    }

    private static void same(String what, StripedStore x, String before) {
        CHECK.due(what + " changes nothing", Inside.state(x).equals(before), true);
    }

    private static void refusedChangesNothing(int kind) {
        StripedStore x = state(kind);
        Hand.tape(x, Hand.times("t", 201));
        String before = Inside.state(x);
        for (int n : new int[] {LEAST, -1, 202, MOST}) {
            CHECK.due("end " + n, x.end(n), REFUSED);
            same("end " + n, x, before);
        }
        for (int k : new int[] {LEAST, -1, 0, 1, 2, MOST}) {
            CHECK.due("name " + k, x.name(k), REFUSED);
            same("name " + k, x, before);
        }
        int[][] wrong = {{-1, 0, 0}, {10, 0, 0}, {LEAST, 0, 0}, {MOST, 0, 0}, {1, -1, 0}, {1, 8193, 0}, {3, -1, 0},
            {3, 8193, 0}, {4, -1, 0}, {4, 8193, 0}, {4, 0, -1}, {4, 0, 2049}, {4, LEAST, MOST}};
        for (int[] w : wrong) {
            CHECK.due("begin " + w[0] + " " + w[1] + " " + w[2], x.begin(w[0], w[1], w[2]), REFUSED);
            same("begin " + w[0] + " " + w[1] + " " + w[2], x, before);
        }
        for (int n : new int[] {LEAST, -1, 0, 501, MOST}) {
            CHECK.due("stir " + n, x.stir(n, 5), REFUSED);
            same("stir " + n, x, before);
        }
        for (int n : new int[] {LEAST, -1, 0, 51, MOST}) {
            CHECK.due("tick " + n, x.tick(n), REFUSED);
            same("tick " + n, x, before);
        }
        for (int odd : new int[] {LEAST, -1, 4, MOST}) {
            CHECK.due("file " + odd, x.file(0, odd), REFUSED);
            CHECK.due("holds " + odd, x.holds(odd), REFUSED);
            CHECK.due("answer " + odd, x.answer(odd == 4 ? 512 : odd), REFUSED);
            CHECK.due("count " + odd, x.count(odd == 4 ? 11 : odd), REFUSED);
            same("a look", x, before);
        }
        emptyNamesChangeNothing(x);
    }

    private static void emptyNamesChangeNothing(StripedStore x) {
        x.end(0);
        x.name(1);
        Hand.name(x, 0, "a");
        Hand.tape(x, "tape");
        String before = Inside.state(x);
        CHECK.due("rename", x.begin(Hand.RENAME, 0, 0), REFUSED);
        CHECK.due("swap", x.begin(Hand.SWAP, 0, 0), REFUSED);
        same("begin without NAME 1", x, before);
        x.end(0);
        x.name(0);
        Hand.tape(x, "tape");
        String then = Inside.state(x);
        for (int kind = 0; kind < 9; kind++) {
            CHECK.due("begin " + kind, x.begin(kind, 0, 0), REFUSED);
            same("begin without NAME 0", x, then);
        }
    }

    private static void fullChangesNothing(int kind) {
        StripedStore x = state(kind);
        Hand.tape(x, Hand.times("t", 2029));
        String before = Inside.state(x);
        CHECK.due("feed", x.feed(1, 2, 3, 4, 5), FULL);
        same("feed", x, before);
        Hand.name(x, 0, "a");
        Hand.name(x, 1, "b");
        for (int i = x.count(4); i < 12; i++) {
            CHECK.due("begin", x.begin(Hand.SIZE, 0, 0) >= 0, true);
        }
        Hand.tape(x, "tape");
        String then = Inside.state(x);
        for (int k = 0; k < 10; k++) {
            CHECK.due("begin " + k, x.begin(k, 0, 0), FULL);
            same("begin " + k, x, then);
        }
    }

    private static void falseChangesNothing(int kind) {
        StripedStore x = state(kind);
        String before = Inside.state(x);
        for (int n : new int[] {LEAST, -1, 4, 5, MOST}) {
            CHECK.due("crash " + n, x.crash(n, -1, 512), false);
            CHECK.due("restart " + n, x.restart(n), false);
            CHECK.due("replace " + n, x.replace(n), false);
            same("one that is not there", x, before);
        }
        CHECK.due("restart of one that is up", x.restart(3), false);
        CHECK.due("replace of one that is up", x.replace(3), false);
        same("one that is up", x, before);
        if (kind == 4) {
            CHECK.due("crash of one that is down", x.crash(1, -1, 512), false);
            CHECK.due("replace once too often", x.replace(1), false);
            CHECK.due("replace once too often, the same", x.replace(2), false);
            same("one that is down", x, before);
        }
    }
}
