import java.util.Random;

/** Long runs of calls, drawn by a seed, on a StripedStore and a PlainStore: every answer has to be the same. */
public final class RandomRunsTest {
    /** More calls than an object is made for, so that its DISKS get full: it has room for 512 OPERATIONS. */
    private static final int CALLS = 4000, OPERATIONS = 500;
    private final Random random;
    private final Both both;
    /** How the run is: how often what fails, how long the names and the bytes are. */
    private final int failing, nameKinds, lengths, settling, most;

    private RandomRunsTest(long seed) {
        random = new Random(seed);
        both = new Both(3 + random.nextInt(4), 2 + random.nextInt(2), 1 + random.nextInt(16));
        failing = random.nextInt(4);
        nameKinds = random.nextInt(3);
        lengths = random.nextInt(4);
        settling = 10 + random.nextInt(60);
        most = random.nextInt(3) == 0 ? CALLS : 512;
    }

    public static void main(String[] args) {
        Both.runs("RandomRunsTest", args, 1, 3000, seed -> new RandomRunsTest(seed).go());
    }

    private Both go() {
        while (both.calls() < most && both.begun() < OPERATIONS && both.isRight()) {
            step();
        }
        return both;
    }

    private void step() {
        int dice = random.nextInt(100);
        if (random.nextInt(settling) == 0) {
            both.settleAndLook(random);
        } else if (dice < 40) {
            operation();
        } else if (dice < 45) {
            wrongCall();
        } else if (dice < 50) {
            look();
        } else if (dice < 75 || failing == 0) {
            traffic();
        } else {
            failure();
        }
    }

    private void traffic() {
        int dice = random.nextInt(12);
        if (dice > 9) {
            busyTime();
        } else if (dice < 5) {
            both.stir(1 + random.nextInt(random.nextBoolean() ? 500 : 60), random.nextInt());
        } else if (dice < 8) {
            both.tick(1 + random.nextInt(random.nextInt(8) == 0 ? 50 : 3));
        } else if (dice == 8) {
            both.deliver(random.nextInt());
        } else if (random.nextBoolean()) {
            both.lose(random.nextInt());
        } else {
            both.twice(random.nextInt());
        }
    }

    private void busyTime() {
        int n = random.nextInt(12);
        for (int i = 0; i < n; i++) {
            both.tick(1);
            both.stir(90, random.nextInt());
            if (failing > 0 && random.nextInt(4) == 0) {
                failure();
            }
        }
    }

    /** Groups move while operations go on, and a disk is lost as soon as its copies may have gone elsewhere. */
    private void migration() {
        for (int i = random.nextInt(4); i >= 0; i--) {
            both.map(random.nextInt() | (random.nextBoolean() ? 0 : random.nextInt()));
            crowd(3 + random.nextInt(8));
        }
        int n = random.nextInt(both.nodes());
        both.crash(n, 0, 300);
        both.replace(n);
        both.restart(n);
        crowd(random.nextInt(5));
        both.map((1 << both.nodes()) - 1);
    }

    private void crowd(int ticks) {
        for (int i = 0; i < ticks; i++) {
            if (random.nextInt(3) == 0) {
                operation();
            }
            both.tick(1);
            both.stir(200, random.nextInt());
        }
    }

    private void failure() {
        if (failing == 3 && random.nextInt(3) == 0) {
            migration();
            return;
        }
        int n = random.nextInt(both.nodes());
        int dice = random.nextInt(failing == 1 ? 5 : 10);
        if (dice < 3) {
            both.crash(n, random.nextInt(), random.nextInt(600) - 40);
        } else if (dice < 6) {
            both.restart(n);
        } else if (dice < 8) {
            both.map(random.nextInt() | (failing == 3 ? 0 : random.nextInt()));
        } else {
            both.replace(n);
        }
    }

    private void operation() {
        if (random.nextInt(3) > 0) {
            setName(0);
        }
        if (random.nextInt(4) == 0) {
            setName(1);
        }
        int[] kinds = {0, 1, 1, 1, 1, 2, 2, 3, 3, 4, 4, 4, 5, 6, 7, 8, 9, 9};
        int kind = kinds[random.nextInt(kinds.length)];
        if (kind == 1 || kind == 2) {
            fill();
        }
        int a = random.nextInt(lengths == 0 ? 600 : lengths == 1 ? 2000 : 8193);
        a = random.nextInt(4) == 0 ? a / 448 * 448 : a;
        both.begin(kind, a, random.nextInt(2049));
    }

    private void setName(int k) {
        int kind = random.nextInt(nameKinds == 0 ? 3 : nameKinds == 1 ? 12 : 70);
        both.end(0);
        both.feed(kind % 7 << 29 | kind << 16, kind % 5 - 2, 0, -1, kind);
        both.end(1 + kind % 20);
        both.name(k);
    }

    private void fill() {
        int most = lengths == 3 ? 12 : lengths == 2 ? 40 : 6;
        int n = random.nextInt(20) == 0 ? 103 : random.nextInt(most);
        for (int i = 0; i < n; i++) {
            int w = random.nextInt();
            both.feed(w, ~w, w * 31, w + 1, -w);
        }
        if (random.nextBoolean()) {
            both.end(Math.max(0, both.taped() - random.nextInt(20)));
        }
    }

    private void wrongCall() {
        int[] odd = {-1, -2, 6, 7, 11, 12, 51, 501, 2049, 8193, 1 << 20, 1 << 30, Integer.MIN_VALUE, Integer.MAX_VALUE};
        int x = odd[random.nextInt(odd.length)];
        int y = odd[random.nextInt(odd.length)];
        both.end(x);
        both.name(x);
        both.begin(random.nextInt(12) - 1, x, y);
        both.stir(x == 11 ? 0 : x, y);
        both.tick(x);
        both.crash(x, y, 0);
        both.restart(x);
        both.replace(x);
    }

    private void look() {
        int operation = both.begun() - random.nextInt(15);
        both.answer(operation);
        both.told(operation, 0);
        int what = random.nextInt(13) - 1;
        both.count(what);
        int k = random.nextInt(6) - 1;
        both.file(k, what);
        both.where(k, k, 0);
        both.onDisk(k, 0, 1, what);
        both.holds(k);
        both.audit();
    }
}
