/** Promises 6 to 10: deliver, lose, twice, stir, tick. */
public final class MessagesTest {
    private static final Check CHECK = new Check("MessagesTest");
    private static final int[] ODD = {0, 1, -1, 5, 1000, Integer.MIN_VALUE, Integer.MAX_VALUE};

    public static void main(String[] args) {
        endsCalm();
        refuses();
        deliverMoves();
        loseLoses();
        twiceComesTwice();
        lostToNodesThatAreDown();
        stirAndTickDoTheWork();
        ticksAlone();
        CHECK.end();
    }

    private static void endsCalm() {
        for (int kind = 0; kind < 5; kind++) {
            for (int k : ODD) {
                StripedStore x = new StripedStore(4, 2, 3);
                x.settle();
                CHECK.due("calm", x.count(10), 1);
                if (kind == 0) {
                    x.deliver(k);
                } else if (kind == 1) {
                    x.lose(k);
                } else if (kind == 2) {
                    x.twice(k);
                } else if (kind == 3) {
                    CHECK.due("stir", x.stir(1, k), 1);
                } else {
                    CHECK.due("tick", x.tick(1), 1);
                }
                CHECK.due("calm after call " + kind, x.count(10), 0);
                CHECK.due("file", x.file(0, 0), StripedStore.BUSY);
                CHECK.due("settle", x.settle(), 0);
                CHECK.due("audit", x.audit(), 0);
            }
        }
    }

    private static void refuses() {
        StripedStore x = new StripedStore(4, 2, 3);
        x.settle();
        for (int n : new int[] {0, -1, 501, Integer.MIN_VALUE, Integer.MAX_VALUE}) {
            CHECK.due("stir " + n, x.stir(n, 7), StripedStore.REFUSED);
        }
        for (int n : new int[] {0, -1, 51, Integer.MIN_VALUE, Integer.MAX_VALUE}) {
            CHECK.due("tick " + n, x.tick(n), StripedStore.REFUSED);
        }
        CHECK.due("still calm", x.count(10), 1);
        CHECK.due("stir 500", x.stir(500, 7), 500);
        CHECK.due("tick 50", x.tick(50), 50);
        CHECK.due("stir 1", x.stir(1, Integer.MIN_VALUE), 1);
        CHECK.due("tick 1", x.tick(1), 1);
    }

    private static StripedStore withOneMessage() {
        StripedStore x = new StripedStore(3, 2, 1);
        x.settle();
        Hand.op(x, Hand.SIZE, "none");
        CHECK.due("one who begins asks at once", Inside.underWay(x), 1);
        return x;
    }

    private static void deliverMoves() {
        StripedStore x = withOneMessage();
        x.deliver(-7);
        CHECK.due("its answer is under way", Inside.underWay(x), 1);
        CHECK.due("not heard yet", Inside.heard(x), 0);
        x.deliver(12);
        CHECK.due("nothing is under way", Inside.underWay(x), 0);
        CHECK.due("heard", Inside.heard(x), 1);
        CHECK.due("but told by settle alone", x.answer(0), StripedStore.PENDING);
        CHECK.due("settle", x.settle(), 1);
        CHECK.due("answer", x.answer(0), StripedStore.NONE);
    }

    private static void loseLoses() {
        StripedStore x = withOneMessage();
        x.lose(3);
        CHECK.due("nothing is under way", Inside.underWay(x), 0);
        x.deliver(0);
        CHECK.due("not heard", Inside.heard(x), 0);
        x.tick(1);
        CHECK.due("asked again", Inside.underWay(x), 1);
        CHECK.due("settle", x.settle(), 1);
        CHECK.due("answer", x.answer(0), StripedStore.NONE);
    }

    private static void twiceComesTwice() {
        StripedStore x = withOneMessage();
        x.twice(0);
        CHECK.due("it comes, and is under way again", Inside.underWay(x), 2);
        x.deliver(0);
        x.deliver(0);
        x.deliver(0);
        CHECK.due("heard once", Inside.heard(x), 1);
        CHECK.due("settle", x.settle(), 1);

        int made = Hand.append(x, "file", "abc");
        for (int i = 0; i < 40; i++) {
            x.tick(1);
            for (int k = 0; k < 30; k++) {
                x.twice(k);
            }
            x.deliver(i);
            x.lose(i * 3);
        }
        x.settle();
        CHECK.due("appended once", x.answer(made), 3);
        CHECK.due("appended once", x.file(0, 0), 3);
    }

    private static void lostToNodesThatAreDown() {
        StripedStore x = withOneMessage();
        for (int n = 0; n < 3; n++) {
            x.crash(n, 0, 0);
        }
        x.deliver(0);
        CHECK.due("lost", Inside.underWay(x), 0);
        CHECK.due("not heard", Inside.heard(x), 0);
        CHECK.due("settle", x.settle(), 1);
    }

    private static void stirAndTickDoTheWork() {
        StripedStore x = new StripedStore(6, 3, 16);
        for (int i = 0; i < 12; i++) {
            Hand.write(x, "file " + i, 100 * i, Hand.times("bytes", 100));
        }
        Hand.busy(x, 150);
        CHECK.due("all done without settle", Inside.heard(x), 12);
        CHECK.due("settle", x.settle(), 12);
        CHECK.due("bytes", x.count(1), 12 * 500 + 100 * 66);
        CHECK.due("audit", x.audit(), 0);
    }

    private static void ticksAlone() {
        StripedStore x = new StripedStore(6, 3, 16);
        int made = Hand.op(x, Hand.MAKE, "a");
        for (int i = 0; i < 20; i++) {
            CHECK.due("tick", x.tick(50), 50);
        }
        CHECK.due("nothing passes but by messages", Inside.heard(x), 0);
        CHECK.due("settle", x.settle(), 1);
        CHECK.due("answer", x.answer(made), 0);
    }
}
