import java.util.Random;

/** Long runs of calls, drawn by a seed, on a StripedStore and a PlainStore: every answer has to be the same. */
public final class RandomRunsTest {
    /** More calls than an object is made for, so that its DISKS get full: it has room for 512 OPERATIONS. */
    private static final int CALLS = 4000, OPERATIONS = 500;
    private final Random random;
    private final StringBuilder log = new StringBuilder();
    private final StripedStore store;
    private final PlainStore plain;
    private int wrong, calls;
    /** How the run is: how often what fails, how long the names and the bytes are. */
    private final int failing, nameKinds, lengths, settling, most;

    private RandomRunsTest(long seed) {
        random = new Random(seed);
        int n = 3 + random.nextInt(4);
        int r = 2 + random.nextInt(2);
        int g = 1 + random.nextInt(16);
        store = new StripedStore(n, r, g);
        plain = new PlainStore(n, r, g);
        failing = random.nextInt(4);
        nameKinds = random.nextInt(3);
        lengths = random.nextInt(4);
        settling = 10 + random.nextInt(60);
        most = random.nextInt(3) == 0 ? CALLS : 512;
        log.append("new ").append(n).append(' ').append(r).append(' ').append(g).append('\n');
    }

    public static void main(String[] args) {
        long from = args.length > 0 ? Long.parseLong(args[0]) : 1;
        long to = args.length > 1 ? Long.parseLong(args[1]) : 3000;
        int failed = 0;
        for (long seed = from; seed <= to; seed++) {
            RandomRunsTest run = new RandomRunsTest(seed);
            run.go();
            if (run.wrong > 0) {
                failed++;
                System.out.println("seed " + seed + ": " + run.wrong + " answers are not as due");
                if (failed == 1) {
                    System.out.println(run.log);
                }
            }
        }
        System.out.println("RandomRunsTest: runs " + from + " to " + to + ", " + failed + " failed");
        if (failed > 0) {
            System.exit(1);
        }
    }

    private void go() {
        while (calls < most && plain.count(3) < OPERATIONS && wrong == 0) {
            step();
        }
    }

    private void due(String call, int got, int want) {
        calls++;
        if (got != want) {
            wrong++;
            log.append(call).append(" answered ").append(got).append(", due is ").append(want).append('\n');
        } else {
            log.append(call).append(": ").append(got).append('\n');
        }
    }

    private void step() {
        int dice = random.nextInt(100);
        if (random.nextInt(settling) == 0) {
            settleAndLook();
        } else if (dice < 40) {
            operation();
        } else if (dice < 45) {
            wrongCall();
        } else if (dice < 50) {
            look();
        } else if (dice < 75 || failing == 0) {
            traffic();
        } else {
            failure();
        }
    }

    private void traffic() {
        int dice = random.nextInt(12);
        if (dice > 9) {
            busyTime();
        } else if (dice < 5) {
            int n = 1 + random.nextInt(random.nextBoolean() ? 500 : 60);
            int seed = random.nextInt();
            due("stir " + n + " " + seed, store.stir(n, seed), plain.stir(n));
        } else if (dice < 8) {
            int n = 1 + random.nextInt(random.nextInt(8) == 0 ? 50 : 3);
            due("tick " + n, store.tick(n), plain.tick(n));
        } else {
            int k = random.nextInt();
            plain.messages();
            if (dice == 8) {
                store.deliver(k);
            } else if (random.nextBoolean()) {
                store.lose(k);
            } else {
                store.twice(k);
            }
            due("message " + k, 0, 0);
        }
    }

    private void busyTime() {
        int n = random.nextInt(12);
        for (int i = 0; i < n; i++) {
            due("tick 1", store.tick(1), plain.tick(1));
            int seed = random.nextInt();
            due("stir 90 " + seed, store.stir(90, seed), plain.stir(90));
            if (failing > 0 && random.nextInt(4) == 0) {
                failure();
            }
        }
    }

    /** Groups move while operations go on, and a disk is lost as soon as its copies may have gone elsewhere. */
    private void migration() {
        int all = (1 << plain.nodes) - 1;
        for (int i = random.nextInt(4); i >= 0; i--) {
            int set = random.nextInt() | (random.nextBoolean() ? 0 : random.nextInt());
            due("map " + set, store.map(set), plain.map(set));
            crowd(3 + random.nextInt(8));
        }
        int n = random.nextInt(plain.nodes);
        due("crash " + n, one(store.crash(n, 0, 300)), one(plain.crash(n)));
        due("replace " + n, one(store.replace(n)), one(plain.replace(n)));
        due("restart " + n, one(store.restart(n)), one(plain.restart(n)));
        crowd(random.nextInt(5));
        due("map " + all, store.map(all), plain.map(all));
    }

    private void crowd(int ticks) {
        for (int i = 0; i < ticks; i++) {
            if (random.nextInt(3) == 0) {
                operation();
            }
            due("tick 1", store.tick(1), plain.tick(1));
            int seed = random.nextInt();
            due("stir 200 " + seed, store.stir(200, seed), plain.stir(200));
        }
    }

    private void failure() {
        if (failing == 3 && random.nextInt(3) == 0) {
            migration();
            return;
        }
        int n = random.nextInt(plain.nodes);
        int dice = random.nextInt(failing == 1 ? 5 : 10);
        if (dice < 3) {
            int mask = random.nextInt();
            int part = random.nextInt(600) - 40;
            due("crash " + n + " " + mask + " " + part, one(store.crash(n, mask, part)), one(plain.crash(n)));
        } else if (dice < 6) {
            due("restart " + n, one(store.restart(n)), one(plain.restart(n)));
        } else if (dice < 8) {
            int set = random.nextInt() | (failing == 3 ? 0 : random.nextInt());
            due("map " + set, store.map(set), plain.map(set));
        } else {
            due("replace " + n, one(store.replace(n)), one(plain.replace(n)));
        }
    }

    private static int one(boolean b) {
        return b ? 1 : 0;
    }

    private void operation() {
        if (random.nextInt(3) > 0) {
            setName(0);
        }
        if (random.nextInt(4) == 0) {
            setName(1);
        }
        int[] kinds = {0, 1, 1, 1, 1, 2, 2, 3, 3, 4, 4, 4, 5, 6, 7, 8, 9, 9};
        int kind = kinds[random.nextInt(kinds.length)];
        if (kind == 1 || kind == 2) {
            fill();
        }
        int a = random.nextInt(lengths == 0 ? 600 : lengths == 1 ? 2000 : 8193);
        a = random.nextInt(4) == 0 ? a / 448 * 448 : a;
        int b = random.nextInt(2049);
        due("begin " + kind + " " + a + " " + b, store.begin(kind, a, b), plain.begin(kind, a, b));
    }

    private void setName(int k) {
        end(0);
        feed(1);
        int kind = random.nextInt(nameKinds == 0 ? 3 : nameKinds == 1 ? 12 : 70);
        int[] words = {kind % 7 << 29 | kind << 16, kind % 5 - 2, 0, -1, kind};
        end(0);
        due("feed name", store.feed(words[0], words[1], words[2], words[3], words[4]), plain.feed(words));
        end(1 + kind % 20);
        due("name " + k, store.name(k), plain.name(k));
    }

    private void fill() {
        int most = lengths == 3 ? 12 : lengths == 2 ? 40 : 6;
        int n = random.nextInt(20) == 0 ? 103 : random.nextInt(most);
        feed(n);
        if (random.nextBoolean()) {
            end(Math.max(0, plain.count(9) - random.nextInt(20)));
        }
    }

    private void feed(int n) {
        for (int i = 0; i < n; i++) {
            int w = random.nextInt();
            due("feed", store.feed(w, ~w, w * 31, w + 1, -w), plain.feed(w, ~w, w * 31, w + 1, -w));
        }
    }

    private void end(int n) {
        due("end " + n, store.end(n), plain.end(n));
    }

    private void wrongCall() {
        int[] odd = {-1, -2, 6, 7, 11, 12, 51, 501, 2049, 8193, 1 << 20, 1 << 30, Integer.MIN_VALUE, Integer.MAX_VALUE};
        int x = odd[random.nextInt(odd.length)];
        int y = odd[random.nextInt(odd.length)];
        due("end " + x, store.end(x), plain.end(x));
        due("name " + x, store.name(x), plain.name(x));
        int kind = random.nextInt(12) - 1;
        due("begin " + kind + " " + x + " " + y, store.begin(kind, x, y), plain.begin(kind, x, y));
        due("stir " + x, store.stir(x == 11 ? 0 : x, y), plain.stir(x == 11 ? 0 : x));
        due("tick " + x, store.tick(x), plain.tick(x));
        due("crash " + x, one(store.crash(x, y, 0)), one(plain.crash(x)));
        due("restart " + x, one(store.restart(x)), one(plain.restart(x)));
        due("replace " + x, one(store.replace(x)), one(plain.replace(x)));
    }

    private void look() {
        int n = plain.count(3);
        int op = n - random.nextInt(15);
        due("answer " + op, store.answer(op), plain.answer(op));
        due("told " + op, store.told(op, 0), plain.told(op, 0));
        int what = random.nextInt(13) - 1;
        due("count " + what, store.count(what), plain.count(what));
        int k = random.nextInt(6) - 1;
        due("file " + k, store.file(k, what), plain.file(k, what));
        due("where " + k, store.where(k, k, 0), plain.where(k, k, 0));
        due("onDisk " + k, store.onDisk(k, 0, 1, what), plain.onDisk(k, 0, 1, what));
        due("holds " + k, store.holds(k), plain.holds(k));
        due("audit", store.audit(), plain.audit());
    }

    private void settleAndLook() {
        int from = plain.count(3) - plain.count(4);
        due("settle", store.settle(), plain.settle());
        due("audit", store.audit(), plain.audit());
        lookAtAll(from);
    }

    /** Looks that leave no trace in the store do not count as calls: else there would be few others. */
    private void lookAtAll(int from) {
        int before = calls;
        int room = log.length();
        for (int op = from; op < plain.count(3); op++) {
            due("answer " + op, store.answer(op), plain.answer(op));
            for (int i = -1; i <= Math.max(0, plain.answer(op)) && i < 2049; i += i < 10 ? 1 : 37) {
                due("told " + op + " " + i, store.told(op, i), plain.told(op, i));
            }
        }
        for (int what = -1; what < 12; what++) {
            due("count " + what, store.count(what), plain.count(what));
        }
        for (int n = -1; n <= plain.nodes; n++) {
            due("holds " + n, store.holds(n), plain.holds(n));
        }
        for (int k = 0; k <= plain.count(0); k++) {
            lookAtFile(k);
        }
        if (wrong == 0) {
            log.setLength(room);
        }
        calls = before;
    }

    private void lookAtFile(int k) {
        for (int what = 0; what < 4; what++) {
            due("file " + k + " " + what, store.file(k, what), plain.file(k, what));
        }
        for (int s = 0; s < 20; s++) {
            for (int r = 0; r < 4; r++) {
                due("where " + k + " " + s + " " + r, store.where(k, s, r), plain.where(k, s, r));
                int i = random.nextInt(460) - 3;
                due("onDisk " + k + " " + s + " " + r + " " + i, store.onDisk(k, s, r, i), plain.onDisk(k, s, r, i));
            }
        }
    }
}
