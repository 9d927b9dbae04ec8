import java.util.Random;

/**
 * Runs in which the messages are in the hands of somebody who means ill: for a while those of some kinds, or to some
 * nodes, are held back, and come late, twice, or in the worst order, while nodes fail. Every answer has to be that of a
 * PlainStore.
 */
public final class HostileRunsTest {
    private static final int KINDS = 13, DROP = 12, PUT = 10, OPERATIONS = 480;
    private final Random random;
    private final Both both;
    private int heldKinds, heldTo;

    private HostileRunsTest(long seed) {
        random = new Random(seed);
        int groups = 1 + random.nextInt(random.nextBoolean() ? 2 : 6);
        both = new Both(3 + random.nextInt(4), 2 + random.nextInt(2), groups);
    }

    public static void main(String[] args) {
        Both.runs("HostileRunsTest", args, 1, 1000, seed -> new HostileRunsTest(seed).go());
    }

    private Both go() {
        int rounds = 1 + random.nextInt(6);
        for (int round = 0; round < rounds && both.isRight() && both.begun() < OPERATIONS; round++) {
            int steps = 3 + random.nextInt(40);
            int seldom = 2 + random.nextInt(6);
            for (int i = 0; i < steps && both.isRight(); i++) {
                step(seldom);
            }
            both.settleAndLook(random);
        }
        return both;
    }

    private void step(int seldom) {
        if (random.nextInt(3) == 0) {
            operation();
        }
        if (random.nextInt(seldom) == 0) {
            failure();
        }
        if (random.nextInt(3) == 0) {
            hold();
        }
        for (int i = random.nextInt(random.nextBoolean() ? 10 : 80); i > 0; i--) {
            pass(true);
        }
        if (random.nextInt(6) == 0) {
            for (int i = random.nextInt(40); i > 0; i--) {
                pass(false);
            }
        }
    }

    private void hold() {
        int how = random.nextInt(5);
        heldKinds = how == 0 ? 0 : 1 << random.nextInt(KINDS);
        if (how == 2) {
            heldKinds |= 1 << random.nextInt(KINDS);
        } else if (how == 3) {
            heldKinds = random.nextInt(1 << KINDS) & random.nextInt(1 << KINDS);
        } else if (how == 4) {
            heldKinds = 1 << DROP | random.nextInt(2) | random.nextInt(2) << PUT;
        }
        int places = both.nodes() + 1;
        heldTo = random.nextInt(3) == 0 ? -1
            : random.nextBoolean() ? 1 << random.nextInt(places) : random.nextInt(1 << places);
    }

    private boolean isHeld(int k) {
        return (heldKinds >> Inside.kindOf(both.store, k) & 1) != 0 && (heldTo >> Inside.goalOf(both.store, k) & 1) != 0;
    }

    /** The oldest, the newest, or any of those that are not held back. */
    private int choose(int count, boolean obey) {
        int start = random.nextInt(count);
        int order = random.nextInt(3);
        for (int i = 0; i < count; i++) {
            int k = order == 0 ? (start + i) % count : order == 1 ? i : count - 1 - i;
            if (!obey || !isHeld(k)) {
                return k;
            }
        }
        return -1;
    }

    private void pass(boolean obey) {
        int count = Inside.underWay(both.store);
        int k = count == 0 ? -1 : choose(count, obey);
        int dice = random.nextInt(20);
        if (k < 0) {
            if (count > 90) {
                both.lose(random.nextInt(count));
            }
            both.tick(1);
        } else if (dice == 0) {
            both.lose(k);
        } else if (dice < 3) {
            both.twice(k);
        } else {
            both.deliver(k);
        }
        if (random.nextInt(12) == 0) {
            both.tick(1);
        }
    }

    private void setName(int k) {
        both.end(0);
        both.feed(random.nextInt(3) + 1 << 24, 0, 0, 0, 0);
        both.end(1);
        both.name(k);
    }

    private void operation() {
        setName(0);
        if (random.nextInt(3) == 0) {
            setName(1);
        }
        int[] kinds = {0, 1, 1, 1, 2, 2, 2, 3, 4, 5, 6, 7, 8, 9};
        int kind = kinds[random.nextInt(kinds.length)];
        for (int i = kind == 1 || kind == 2 ? random.nextInt(3) : 0; i > 0; i--) {
            int w = random.nextInt();
            both.feed(w, w, w, w, w);
        }
        int a = random.nextBoolean() ? 430 + random.nextInt(40) : random.nextInt(1400);
        both.begin(kind, a, random.nextInt(100));
    }

    private void failure() {
        int n = random.nextInt(both.nodes());
        int dice = random.nextInt(9);
        if (dice < 2) {
            both.crash(n, random.nextInt(), random.nextInt(514) - 1);
            if (random.nextBoolean()) {
                both.restart(n);
            }
        } else if (dice == 2) {
            both.crash(n, 0, 0);
            both.replace(n);
            if (random.nextInt(3) > 0) {
                both.restart(n);
            }
        } else if (dice < 5) {
            both.restart(n);
        } else if (dice == 5) {
            for (int i = 0; i < both.nodes(); i++) {
                both.restart(i);
            }
        } else {
            int most = 1 << both.nodes();
            both.map(dice == 8 ? -1 : random.nextInt(most) | random.nextInt(most));
        }
    }
}
