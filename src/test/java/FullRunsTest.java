import java.util.Random;

/**
 * Runs on stores that are full: 48 files with long names, 32768 bytes, and 121 stripes laid, which is as many as there
 * can be. Then nodes fail, disks are lost, and operations change much at once. Every answer has to be that of a
 * PlainStore.
 */
public final class FullRunsTest {
    private static final int FILES = 48, STRIPES = 121, OPERATIONS = 490, DROP = 12;
    private final Random random;
    private final Both both;

    private FullRunsTest(Random random, int nodes, int copies, int groups) {
        this.random = random;
        both = new Both(nodes, copies, groups);
    }

    public static void main(String[] args) {
        Both.runs("FullRunsTest", args, 0, 100, FullRunsTest::run);
    }

    /** Seed 0 is the run in which disks have to hold more than in any other. */
    private static Both run(long seed) {
        Random random = new Random(seed);
        if (seed == 0) {
            return new FullRunsTest(random, 3, 3, 1).dropNothing();
        }
        int groups = 1 + random.nextInt(random.nextBoolean() ? 2 : 16);
        return new FullRunsTest(random, 3 + random.nextInt(4), 2 + random.nextInt(2), groups).go();
    }

    private Both go() {
        fill();
        for (int round = 0; round < 6 && both.isRight() && both.begun() < OPERATIONS - 12; round++) {
            int steps = random.nextInt(30);
            for (int i = 0; i < steps && both.isRight(); i++) {
                step();
            }
            both.settleAndLook(random);
        }
        return both;
    }

    /**
     * 121 stripes, 48 records and a root are wanted, and 12 operations make 8 blocks each: if no order to drop what was
     * before comes to where it goes, a disk has 266 blocks.
     */
    private Both dropNothing() {
        fill();
        name(0, 0);
        for (int i = 0; i < 12; i++) {
            write(447, 2048);
        }
        for (int i = 0; i < 200; i++) {
            both.tick(1);
            while (Inside.underWay(both.store) > 0) {
                if (Inside.kindOf(both.store, 0) == DROP) {
                    both.lose(0);
                } else {
                    both.deliver(0);
                }
            }
        }
        blocks(266);
        both.crash(1, 0, 0);
        both.replace(1);
        both.settleAndLook(random);
        blocks(170);
        return both;
    }

    private void blocks(int due) {
        for (int n = 0; n < 3; n++) {
            both.due("blocks", Inside.blocks(both.store, n), due);
        }
    }

    /** 73 stripes are whole, and 48 have one byte each, but for one: so nothing more has room. */
    private void fill() {
        int[] whole = new int[FILES];
        for (int i = 0; i < STRIPES - FILES; i++) {
            int f = i < 18 ? 0 : random.nextInt(random.nextBoolean() ? FILES : 5);
            while (whole[f] == 18) {
                f = (f + 1) % FILES;
            }
            whole[f]++;
        }
        for (int f = 0; f < FILES; f++) {
            name(0, f);
            for (int s = 0; s <= whole[f]; s += 4) {
                write(s * 448, 448 * Math.min(4, whole[f] - s) + (f == 0 && s + 4 > whole[f] ? 17 : 1));
            }
        }
        both.settleAndLook(random);
        both.due("files", both.store.count(0), FILES);
        both.due("bytes", both.store.count(1), 32768);
        both.due("laid", both.store.count(2), STRIPES);
    }

    private void write(int a, int length) {
        tape(length);
        begin(1, a, 0);
    }

    private void tape(int length) {
        both.end(0);
        while (both.taped() < length) {
            int w = random.nextInt();
            if (both.taped() + 20 > 2048) {
                both.end(2028);
            }
            both.feed(w, ~w, w * 31, w + 1, -w);
        }
        both.end(length);
    }

    /** All but their last bytes are the same: 20 to 200 of them. */
    private void name(int k, int f) {
        both.end(0);
        for (int i = 0; i < 10 - f % 10; i++) {
            both.feed(-1, -1, -1, -1, i == 9 - f % 10 ? f : -1);
        }
        both.name(k);
    }

    private void begin(int kind, int a, int b) {
        if (both.open() == 12) {
            both.settleAndLook(random);
        }
        both.begin(kind, a, b);
    }

    private void step() {
        int dice = random.nextInt(8);
        if (dice < 3 && both.open() < 12) {
            operation();
        } else if (dice < 5) {
            failure();
        }
        for (int i = random.nextInt(4); i > 0; i--) {
            both.tick(1);
            both.stir(1 + random.nextInt(300), random.nextInt());
        }
    }

    /** Most of them need no more room than there is. */
    private void operation() {
        name(0, random.nextInt(random.nextBoolean() ? FILES : 5));
        int[] kinds = {1, 1, 1, 1, 1, 3, 4, 4, 5, 6, 7, 7, 9, 2};
        int kind = kinds[random.nextInt(kinds.length)];
        if (kind == 6 || kind == 7) {
            name(1, random.nextInt(FILES));
        }
        if (kind == 1 || kind == 2) {
            tape(random.nextInt(random.nextBoolean() ? 2049 : 60));
        }
        begin(kind, random.nextInt(random.nextBoolean() ? 600 : 8193), 2048);
    }

    private void failure() {
        int n = random.nextInt(both.nodes());
        int dice = random.nextInt(7);
        if (dice < 3) {
            both.crash(n, random.nextInt(), random.nextInt(514) - 1);
        }
        if (dice < 2) {
            both.replace(n);
        }
        if (dice % 2 == 1) {
            both.restart(n);
        }
        if (dice == 4 || dice == 6) {
            both.map(dice == 4 ? -1 : random.nextInt() | random.nextInt());
        }
    }
}
