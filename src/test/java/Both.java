import java.util.Random;
import java.util.function.LongFunction;

/** A StripedStore and a PlainStore: every call goes to both, and both have to answer the same. */
final class Both {
    final StripedStore store;
    final PlainStore plain;
    private final StringBuilder log = new StringBuilder();
    private int calls, wrong;

    Both(int nodes, int copies, int groups) {
        store = new StripedStore(nodes, copies, groups);
        plain = new PlainStore(nodes, copies, groups);
        log.append("new ").append(nodes).append(' ').append(copies).append(' ').append(groups).append('\n');
    }

    /** Makes the runs of the seeds that args name, or of those from first to last; ends with 1 if one of them fails. */
    static void runs(String test, String[] args, long first, long last, LongFunction<Both> run) {
        long from = args.length > 0 ? Long.parseLong(args[0]) : first;
        long to = args.length > 1 ? Long.parseLong(args[1]) : last;
        int failed = 0;
        for (long seed = from; seed <= to; seed++) {
            Both both = run.apply(seed);
            if (both.wrong > 0) {
                failed++;
                System.out.println("seed " + seed + ": " + both.wrong + " answers are not as due");
                if (failed == 1) {
                    System.out.println(both.log);
                }
            }
        }
        System.out.println(test + ": runs " + from + " to " + to + ", " + failed + " failed");
        if (failed > 0) {
            System.exit(1);
        }
    }

    boolean isRight() {
        return wrong == 0;
    }

    int calls() {
        return calls;
    }

    int nodes() {
        return plain.nodes;
    }

    int begun() {
        return plain.count(3);
    }

    int open() {
        return plain.count(4);
    }

    int taped() {
        return plain.count(9);
    }

    int due(String call, int got, int want) {
        calls++;
        log.append(call).append(": ").append(got).append('\n');
        if (got != want) {
            wrong++;
            log.append("due is ").append(want).append('\n');
        }
        return want;
    }

    private boolean due(String call, boolean got, boolean want) {
        return due(call, got ? 1 : 0, want ? 1 : 0) == 1;
    }

    void feed(int a, int b, int c, int d, int e) {
        String call = "feed " + a + " " + b + " " + c + " " + d + " " + e;
        due(call, store.feed(a, b, c, d, e), plain.feed(a, b, c, d, e));
    }

    void end(int n) {
        due("end " + n, store.end(n), plain.end(n));
    }

    void name(int k) {
        due("name " + k, store.name(k), plain.name(k));
    }

    void begin(int kind, int a, int b) {
        due("begin " + kind + " " + a + " " + b, store.begin(kind, a, b), plain.begin(kind, a, b));
    }

    void deliver(int k) {
        store.deliver(k);
        moved("deliver " + k);
    }

    void lose(int k) {
        store.lose(k);
        moved("lose " + k);
    }

    void twice(int k) {
        store.twice(k);
        moved("twice " + k);
    }

    private void moved(String call) {
        plain.messages();
        due(call, 0, 0);
    }

    void stir(int n, int seed) {
        due("stir " + n + " " + seed, store.stir(n, seed), plain.stir(n));
    }

    void tick(int n) {
        due("tick " + n, store.tick(n), plain.tick(n));
    }

    void crash(int n, int mask, int part) {
        due("crash " + n + " " + mask + " " + part, store.crash(n, mask, part), plain.crash(n));
    }

    void restart(int n) {
        due("restart " + n, store.restart(n), plain.restart(n));
    }

    void map(int set) {
        due("map " + set, store.map(set), plain.map(set));
    }

    void replace(int n) {
        due("replace " + n, store.replace(n), plain.replace(n));
    }

    void answer(int operation) {
        due("answer " + operation, store.answer(operation), plain.answer(operation));
    }

    void told(int operation, int i) {
        due("told " + operation + " " + i, store.told(operation, i), plain.told(operation, i));
    }

    void file(int k, int what) {
        due("file " + k + " " + what, store.file(k, what), plain.file(k, what));
    }

    void where(int k, int s, int r) {
        due("where " + k + " " + s + " " + r, store.where(k, s, r), plain.where(k, s, r));
    }

    void onDisk(int k, int s, int r, int i) {
        due("onDisk " + k + " " + s + " " + r + " " + i, store.onDisk(k, s, r, i), plain.onDisk(k, s, r, i));
    }

    void holds(int n) {
        due("holds " + n, store.holds(n), plain.holds(n));
    }

    void audit() {
        due("audit", store.audit(), plain.audit());
    }

    void count(int what) {
        due("count " + what, store.count(what), plain.count(what));
    }

    void settleAndLook(Random random) {
        int from = begun() - open();
        due("settle", store.settle(), plain.settle());
        audit();
        lookAtAll(from, random);
    }

    /** Looks change nothing, so they count as no calls and leave no line in the log unless one is not as due. */
    private void lookAtAll(int from, Random random) {
        int before = calls;
        int room = log.length();
        for (int operation = from; operation < begun(); operation++) {
            answer(operation);
            for (int i = -1; i <= Math.max(0, plain.answer(operation)) && i < 2049; i += i < 10 ? 1 : 7) {
                told(operation, i);
            }
        }
        for (int what = -1; what < 12; what++) {
            count(what);
        }
        for (int n = -1; n <= nodes(); n++) {
            holds(n);
        }
        for (int k = 0; k <= plain.count(0); k++) {
            lookAtFile(k, random);
        }
        if (wrong == 0) {
            log.setLength(room);
        }
        calls = before;
    }

    private void lookAtFile(int k, Random random) {
        for (int what = 0; what < 4; what++) {
            file(k, what);
        }
        for (int s = 0; s < 20; s++) {
            for (int r = 0; r < 4; r++) {
                where(k, s, r);
                int i = random.nextInt(460) - 3;
                onDisk(k, s, r, i);
                onDisk(k, s, r, i % 30);
            }
        }
    }
}
