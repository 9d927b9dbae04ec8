import java.util.Random;

/**
 * Runs in which the messages are in the hands of somebody who means ill: for a while those of some kinds, or to some
 * nodes, are held back, and come late, twice, or in the worst order, while nodes fail. Every answer has to be that of a
 * PlainStore.
 */
public final class HostileRunsTest {
    private static final int KINDS = 13, DROP = 12, PUT = 10, OPERATIONS = 480;
    private final Random random;
    private final StringBuilder log = new StringBuilder();
    private final StripedStore store;
    private final PlainStore plain;
    private final Object net;
    private final Object[] way;
    private int heldKinds, heldTo, wrong;

    private HostileRunsTest(long seed) {
        random = new Random(seed);
        int n = 3 + random.nextInt(4);
        int r = 2 + random.nextInt(2);
        int g = 1 + random.nextInt(random.nextBoolean() ? 2 : 6);
        store = new StripedStore(n, r, g);
        plain = new PlainStore(n, r, g);
        net = Inside.get(store, "net");
        way = (Object[]) Inside.get(net, "way");
        log.append("new ").append(n).append(' ').append(r).append(' ').append(g).append('\n');
    }

    public static void main(String[] args) {
        long from = args.length > 0 ? Long.parseLong(args[0]) : 1;
        long to = args.length > 1 ? Long.parseLong(args[1]) : 1000;
        int failed = 0;
        for (long seed = from; seed <= to; seed++) {
            HostileRunsTest run = new HostileRunsTest(seed);
            run.go();
            if (run.wrong > 0) {
                failed++;
                System.out.println("seed " + seed + ": " + run.wrong + " answers are not as due");
                if (failed == 1) {
                    System.out.println(run.log);
                }
            }
        }
        System.out.println("HostileRunsTest: runs " + from + " to " + to + ", " + failed + " failed");
        if (failed > 0) {
            System.exit(1);
        }
    }

    private void go() {
        int rounds = 1 + random.nextInt(6);
        for (int round = 0; round < rounds && wrong == 0 && plain.count(3) < OPERATIONS; round++) {
            int steps = 3 + random.nextInt(40);
            int seldom = 2 + random.nextInt(6);
            for (int i = 0; i < steps && wrong == 0; i++) {
                step(seldom);
            }
            look();
        }
    }

    private void step(int seldom) {
        if (random.nextInt(3) == 0) {
            operation();
        }
        if (random.nextInt(seldom) == 0) {
            failure();
        }
        if (random.nextInt(3) == 0) {
            hold();
        }
        for (int i = random.nextInt(random.nextBoolean() ? 10 : 80); i > 0; i--) {
            pass(true);
        }
        if (random.nextInt(6) == 0) {
            for (int i = random.nextInt(40); i > 0; i--) {
                pass(false);
            }
        }
    }

    private void due(String call, int got, int want) {
        log.append(call).append(": ").append(got).append('\n');
        if (got != want) {
            wrong++;
            log.append("due is ").append(want).append('\n');
        }
    }

    private static int one(boolean b) {
        return b ? 1 : 0;
    }

    private void hold() {
        int how = random.nextInt(5);
        heldKinds = how == 0 ? 0 : 1 << random.nextInt(KINDS);
        if (how == 2) {
            heldKinds |= 1 << random.nextInt(KINDS);
        } else if (how == 3) {
            heldKinds = random.nextInt(1 << KINDS) & random.nextInt(1 << KINDS);
        } else if (how == 4) {
            heldKinds = 1 << DROP | one(random.nextBoolean()) | one(random.nextBoolean()) << PUT;
        }
        int places = plain.nodes + 1;
        heldTo = random.nextInt(3) == 0 ? -1
            : random.nextBoolean() ? 1 << random.nextInt(places) : random.nextInt(1 << places);
    }

    private boolean isHeld(int i) {
        return (heldKinds >> Inside.number(way[i], "kind") & 1) != 0 && (heldTo >> Inside.number(way[i], "to") & 1) != 0;
    }

    /** The oldest, the newest, or any of those that are not held back. */
    private int choose(int count, boolean obey) {
        int start = random.nextInt(count);
        int order = random.nextInt(3);
        for (int i = 0; i < count; i++) {
            int k = order == 0 ? (start + i) % count : order == 1 ? i : count - 1 - i;
            if (!obey || !isHeld(k)) {
                return k;
            }
        }
        return -1;
    }

    private void pass(boolean obey) {
        int count = Inside.number(net, "count");
        int k = count == 0 ? -1 : choose(count, obey);
        int dice = random.nextInt(20);
        plain.messages();
        if (k < 0) {
            if (count > 90) {
                store.lose(random.nextInt(count));
            }
            due("tick", store.tick(1), plain.tick(1));
        } else if (dice == 0) {
            store.lose(k);
            log.append("lose ").append(k).append('\n');
        } else if (dice < 3) {
            store.twice(k);
            log.append("twice ").append(k).append('\n');
        } else {
            store.deliver(k);
            log.append("deliver ").append(k).append('\n');
        }
        if (random.nextInt(12) == 0) {
            due("tick", store.tick(1), plain.tick(1));
        }
    }

    private void setName(int k) {
        int w = random.nextInt(3) + 1 << 24;
        due("end", store.end(0), plain.end(0));
        due("feed " + w, store.feed(w, 0, 0, 0, 0), plain.feed(w, 0, 0, 0, 0));
        due("end", store.end(1), plain.end(1));
        due("name " + k, store.name(k), plain.name(k));
    }

    private void operation() {
        setName(0);
        if (random.nextInt(3) == 0) {
            setName(1);
        }
        int[] kinds = {0, 1, 1, 1, 2, 2, 2, 3, 4, 5, 6, 7, 8, 9};
        int kind = kinds[random.nextInt(kinds.length)];
        for (int i = kind == 1 || kind == 2 ? random.nextInt(3) : 0; i > 0; i--) {
            int w = random.nextInt();
            due("feed " + w, store.feed(w, w, w, w, w), plain.feed(w, w, w, w, w));
        }
        int a = random.nextBoolean() ? 430 + random.nextInt(40) : random.nextInt(1400);
        int b = random.nextInt(100);
        due("begin " + kind + " " + a + " " + b, store.begin(kind, a, b), plain.begin(kind, a, b));
    }

    private void failure() {
        int n = random.nextInt(plain.nodes);
        int dice = random.nextInt(9);
        if (dice < 2) {
            crash(n, random.nextInt(), random.nextInt(514) - 1);
            if (random.nextBoolean()) {
                restart(n);
            }
        } else if (dice == 2) {
            crash(n, 0, 0);
            due("replace " + n, one(store.replace(n)), one(plain.replace(n)));
            if (random.nextInt(3) > 0) {
                restart(n);
            }
        } else if (dice < 5) {
            restart(n);
        } else if (dice == 5) {
            for (int i = 0; i < plain.nodes; i++) {
                restart(i);
            }
        } else {
            int set = dice == 8 ? -1 : random.nextInt(1 << plain.nodes) | random.nextInt(1 << plain.nodes);
            due("map " + set, store.map(set), plain.map(set));
        }
    }

    private void crash(int n, int mask, int part) {
        due("crash " + n + " " + mask + " " + part, one(store.crash(n, mask, part)), one(plain.crash(n)));
    }

    private void restart(int n) {
        due("restart " + n, one(store.restart(n)), one(plain.restart(n)));
    }

    private void look() {
        int from = plain.count(3) - plain.count(4);
        due("settle", store.settle(), plain.settle());
        due("audit", store.audit(), plain.audit());
        for (int operation = from; operation < plain.count(3); operation++) {
            due("answer " + operation, store.answer(operation), plain.answer(operation));
            for (int i = 0; i < 101; i += 5) {
                due("told " + operation + " " + i, store.told(operation, i), plain.told(operation, i));
            }
        }
        for (int what = 0; what < 11; what++) {
            due("count " + what, store.count(what), plain.count(what));
        }
        for (int n = 0; n < plain.nodes; n++) {
            due("holds " + n, store.holds(n), plain.holds(n));
        }
        for (int k = 0; k <= plain.count(0); k++) {
            lookAtFile(k);
        }
    }

    private void lookAtFile(int k) {
        for (int what = 0; what < 4; what++) {
            due("file " + k + " " + what, store.file(k, what), plain.file(k, what));
        }
        for (int s = 0; s < 5; s++) {
            for (int r = 0; r < plain.copies; r++) {
                for (int i = 0; i < 448; i += 11) {
                    due("onDisk " + k + " " + s + " " + r + " " + i, store.onDisk(k, s, r, i), plain.onDisk(k, s, r, i));
                }
            }
        }
    }
}
