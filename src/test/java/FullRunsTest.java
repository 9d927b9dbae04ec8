import java.util.Random;

/**
 * Runs on stores that are full: 48 files with long names, 32768 bytes, and 121 stripes laid, which is as many as there
 * can be. Then nodes fail, disks are lost, and operations change much at once. Every answer has to be that of a
 * PlainStore.
 */
public final class FullRunsTest {
    private static final int FILES = 48, STRIPES = 121, OPERATIONS = 490, DROP = 12;
    private final Random random;
    private final StringBuilder log = new StringBuilder();
    private final StripedStore store;
    private final PlainStore plain;
    private int wrong;

    private FullRunsTest(Random random, int n, int r, int g) {
        this.random = random;
        store = new StripedStore(n, r, g);
        plain = new PlainStore(n, r, g);
        log.append("new ").append(n).append(' ').append(r).append(' ').append(g).append('\n');
    }

    private static FullRunsTest ofSeed(long seed) {
        Random random = new Random(seed);
        int n = 3 + random.nextInt(4);
        int r = 2 + random.nextInt(2);
        int g = 1 + random.nextInt(random.nextBoolean() ? 2 : 16);
        return new FullRunsTest(random, n, r, g);
    }

    /** Seed 0 is the run in which disks have to hold more than in any other. */
    public static void main(String[] args) {
        long from = args.length > 0 ? Long.parseLong(args[0]) : 0;
        long to = args.length > 1 ? Long.parseLong(args[1]) : 100;
        int failed = 0;
        for (long seed = from; seed <= to; seed++) {
            FullRunsTest run = seed == 0 ? new FullRunsTest(new Random(0), 3, 3, 1) : ofSeed(seed);
            if (seed == 0) {
                run.nothingIsDropped();
            } else {
                run.go();
            }
            if (run.wrong > 0) {
                failed++;
                System.out.println("seed " + seed + ": " + run.wrong + " answers are not as due");
                if (failed == 1) {
                    System.out.println(run.log);
                }
            }
        }
        System.out.println("FullRunsTest: runs " + from + " to " + to + ", " + failed + " failed");
        if (failed > 0) {
            System.exit(1);
        }
    }

    private void go() {
        fill();
        for (int round = 0; round < 6 && wrong == 0 && plain.count(3) < OPERATIONS - 12; round++) {
            int steps = random.nextInt(30);
            for (int i = 0; i < steps && wrong == 0; i++) {
                step();
            }
            look();
        }
    }

    /**
     * 121 stripes, 48 records and a root are wanted, and 12 operations make 8 blocks each: if no order to drop what was
     * before comes to where it goes, a disk has 266 blocks.
     */
    private void nothingIsDropped() {
        fill();
        name(0, 0);
        for (int i = 0; i < 12; i++) {
            write(447, 2048);
        }
        for (int i = 0; i < 200; i++) {
            due("tick 1", store.tick(1), plain.tick(1));
            while (Inside.underWay(store) > 0) {
                Object[] way = (Object[]) Inside.get(Inside.get(store, "net"), "way");
                if (Inside.number(way[0], "kind") == DROP) {
                    store.lose(0);
                } else {
                    store.deliver(0);
                }
            }
        }
        for (int n = 0; n < 3; n++) {
            due("blocks", Inside.blocks(store, n), 266);
        }
        due("crash 1", one(store.crash(1, 0, 0)), one(plain.crash(1)));
        due("replace 1", one(store.replace(1)), one(plain.replace(1)));
        look();
        for (int n = 0; n < 3; n++) {
            due("wanted", Inside.blocks(store, n), 170);
        }
    }

    private void due(String call, int got, int want) {
        log.append(call).append(": ").append(got).append('\n');
        if (got != want) {
            wrong++;
            log.append("due is ").append(want).append('\n');
        }
    }

    private static int one(boolean b) {
        return b ? 1 : 0;
    }

    /** 73 stripes are whole, and 48 have one byte each, but for one: so nothing more has room. */
    private void fill() {
        int[] whole = new int[FILES];
        for (int i = 0; i < STRIPES - FILES; i++) {
            int f = i < 18 ? 0 : random.nextInt(random.nextBoolean() ? FILES : 5);
            while (whole[f] == 18) {
                f = (f + 1) % FILES;
            }
            whole[f]++;
        }
        for (int f = 0; f < FILES; f++) {
            name(0, f);
            for (int s = 0; s <= whole[f]; s += 4) {
                write(s * 448, 448 * Math.min(4, whole[f] - s) + (f == 0 && s + 4 > whole[f] ? 17 : 1));
            }
        }
        look();
        due("files", store.count(0), FILES);
        due("bytes", store.count(1), 32768);
        due("laid", store.count(2), STRIPES);
    }

    private void write(int a, int length) {
        tape(length);
        begin(1, a, 0);
    }

    private void tape(int length) {
        end(0);
        while (plain.count(9) < length) {
            int w = random.nextInt();
            if (plain.count(9) + 20 > 2048) {
                end(2028);
            }
            due("feed " + w, store.feed(w, ~w, w * 31, w + 1, -w), plain.feed(w, ~w, w * 31, w + 1, -w));
        }
        end(length);
    }

    private void end(int n) {
        due("end " + n, store.end(n), plain.end(n));
    }

    /** All but their last bytes are the same: 20 to 200 of them. */
    private void name(int k, int f) {
        end(0);
        for (int i = 0; i < 10 - f % 10; i++) {
            int w = i == 9 - f % 10 ? f : -1;
            due("feed", store.feed(-1, -1, -1, -1, w), plain.feed(-1, -1, -1, -1, w));
        }
        due("name " + k, store.name(k), plain.name(k));
    }

    private void begin(int kind, int a, int b) {
        if (plain.count(4) == 12) {
            look();
        }
        due("begin " + kind + " " + a + " " + b, store.begin(kind, a, b), plain.begin(kind, a, b));
    }

    private void step() {
        int dice = random.nextInt(8);
        if (dice < 3 && plain.count(4) < 12) {
            operation();
        } else if (dice < 5) {
            failure();
        }
        for (int i = random.nextInt(4); i > 0; i--) {
            int seed = random.nextInt();
            int n = 1 + random.nextInt(300);
            due("tick 1", store.tick(1), plain.tick(1));
            due("stir " + n + " " + seed, store.stir(n, seed), plain.stir(n));
        }
    }

    /** Most of them need no more room than there is. */
    private void operation() {
        int f = random.nextInt(random.nextBoolean() ? FILES : 5);
        name(0, f);
        int[] kinds = {1, 1, 1, 1, 1, 3, 4, 4, 5, 6, 7, 7, 9, 2};
        int kind = kinds[random.nextInt(kinds.length)];
        if (kind == 6 || kind == 7) {
            name(1, random.nextInt(FILES));
        }
        int a = random.nextInt(random.nextBoolean() ? 600 : 8193);
        if (kind == 1 || kind == 2) {
            tape(random.nextInt(random.nextBoolean() ? 2049 : 60));
        }
        begin(kind, a, 2048);
    }

    private void failure() {
        int n = random.nextInt(plain.nodes);
        int dice = random.nextInt(7);
        if (dice < 3) {
            int mask = random.nextInt();
            int part = random.nextInt(514) - 1;
            due("crash " + n + " " + mask + " " + part, one(store.crash(n, mask, part)), one(plain.crash(n)));
        }
        if (dice < 2) {
            due("replace " + n, one(store.replace(n)), one(plain.replace(n)));
        }
        if (dice % 2 == 1) {
            due("restart " + n, one(store.restart(n)), one(plain.restart(n)));
        }
        if (dice == 4 || dice == 6) {
            int set = dice == 4 ? -1 : random.nextInt() | random.nextInt();
            due("map " + set, store.map(set), plain.map(set));
        }
    }

    private void look() {
        int from = plain.count(3) - plain.count(4);
        due("settle", store.settle(), plain.settle());
        due("audit", store.audit(), plain.audit());
        for (int operation = from; operation < plain.count(3); operation++) {
            due("answer " + operation, store.answer(operation), plain.answer(operation));
            for (int i = 0; i < 2049; i += 31) {
                due("told " + operation + " " + i, store.told(operation, i), plain.told(operation, i));
            }
        }
        for (int what = 0; what < 11; what++) {
            due("count " + what, store.count(what), plain.count(what));
        }
        for (int n = 0; n < plain.nodes; n++) {
            due("holds " + n, store.holds(n), plain.holds(n));
        }
        for (int k = 0; k <= plain.count(0); k++) {
            lookAtFile(k);
        }
    }

    private void lookAtFile(int k) {
        for (int what = 0; what < 4; what++) {
            due("file " + k + " " + what, store.file(k, what), plain.file(k, what));
        }
        for (int s = 0; s < 20; s++) {
            for (int r = 0; r < plain.copies; r++) {
                due("where " + k + " " + s + " " + r, store.where(k, s, r), plain.where(k, s, r));
                int i = random.nextInt(448);
                due("onDisk " + k + " " + s + " " + r + " " + i, store.onDisk(k, s, r, i), plain.onDisk(k, s, r, i));
            }
        }
    }
}
