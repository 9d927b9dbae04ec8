import java.util.ArrayList;
import java.util.Arrays;
import java.util.List;
import java.util.TreeMap;

/**
 * What the document asks of a StripedStore, without NODES, DISKS and MESSAGES: one plain map from names to bytes.
 * It shares no line with the program, so that a fault in one is seen by the other.
 */
final class PlainStore {
    static final int REFUSED = -1, NONE = -2, EXISTS = -3, FULL = -4, PENDING = -5, BUSY = -6;

    private static final class PlainFile {
        int id;
        byte[] bytes = new byte[0];
        final boolean[] laid = new boolean[19];
    }

    private static final class Operation {
        int kind, a, b;
        byte[] name0, name1, tape;
        int answer = PENDING;
        byte[] told = new byte[0];
    }

    final int nodes, copies, groups;
    private final TreeMap<byte[], PlainFile> files = new TreeMap<>(Arrays::compareUnsigned);
    private final List<Operation> operations = new ArrayList<>();
    private final boolean[] up;
    private final byte[][] names = {new byte[0], new byte[0]};
    private byte[] tape = new byte[0];
    private int settled, since, epoch = 1, set, replaced, filesThen, bytesThen, laidThen;
    private boolean calm;

    PlainStore(int nodes, int copies, int groups) {
        this.nodes = Math.max(3, Math.min(6, nodes));
        this.copies = Math.max(2, Math.min(3, copies));
        this.groups = Math.max(1, Math.min(16, groups));
        up = new boolean[this.nodes];
        Arrays.fill(up, true);
        set = (1 << this.nodes) - 1;
    }

    int feed(int... words) {
        if (tape.length + 20 > 2048) {
            return FULL;
        }
        int at = tape.length;
        tape = Arrays.copyOf(tape, at + 20);
        for (int w : words) {
            for (int shift = 24; shift >= 0; shift -= 8) {
                tape[at++] = (byte) (w >> shift);
            }
        }
        return tape.length;
    }

    int end(int n) {
        if (n < 0 || n > tape.length) {
            return REFUSED;
        }
        tape = Arrays.copyOf(tape, n);
        return n;
    }

    int name(int k) {
        if (k < 0 || k > 1 || tape.length > 200) {
            return REFUSED;
        }
        names[k] = tape;
        tape = new byte[0];
        return names[k].length;
    }

    int begin(int kind, int a, int b) {
        boolean bad = kind < 0 || kind > 9;
        bad |= kind != 9 && names[0].length == 0;
        bad |= (kind == 6 || kind == 7) && names[1].length == 0;
        bad |= (kind == 1 || kind == 3 || kind == 4) && (a < 0 || a > 8192);
        bad |= kind == 4 && (b < 0 || b > 2048);
        if (bad) {
            return REFUSED;
        }
        if (operations.size() - settled >= 12) {
            return FULL;
        }
        Operation o = new Operation();
        o.kind = kind;
        o.a = a;
        o.b = b;
        o.name0 = names[0];
        o.name1 = names[1];
        if (kind == 1 || kind == 2) {
            o.tape = tape;
            tape = new byte[0];
        }
        operations.add(o);
        calm = false;
        return operations.size() - 1;
    }

    void messages() {
        calm = false;
    }

    int stir(int n) {
        if (n < 1 || n > 500) {
            return REFUSED;
        }
        calm = false;
        return n;
    }

    int tick(int n) {
        if (n < 1 || n > 50) {
            return REFUSED;
        }
        calm = false;
        return n;
    }

    boolean crash(int n) {
        if (n < 0 || n >= nodes || !up[n]) {
            return false;
        }
        up[n] = false;
        calm = false;
        return true;
    }

    boolean restart(int n) {
        if (n < 0 || n >= nodes || up[n]) {
            return false;
        }
        up[n] = true;
        calm = false;
        return true;
    }

    int map(int newSet) {
        set = newSet & (1 << nodes) - 1;
        calm = false;
        return ++epoch;
    }

    boolean replace(int n) {
        if (n < 0 || n >= nodes || up[n] || replaced >= copies - 1) {
            return false;
        }
        replaced++;
        epoch++;
        calm = false;
        return true;
    }

    int settle() {
        Arrays.fill(up, true);
        set = (1 << nodes) - 1;
        epoch++;
        since = settled;
        while (settled < operations.size()) {
            take(settled, operations.get(settled));
            settled++;
        }
        filesThen = files.size();
        bytesThen = total();
        laidThen = 0;
        for (PlainFile f : files.values()) {
            laidThen += laid(f);
        }
        replaced = 0;
        calm = true;
        return settled - since;
    }

    int answer(int operation) {
        return operation < 0 || operation >= operations.size() ? REFUSED : operations.get(operation).answer;
    }

    int told(int operation, int i) {
        if (operation < since || operation >= settled) {
            return NONE;
        }
        byte[] told = operations.get(operation).told;
        return i < 0 || i >= told.length ? NONE : told[i] & 255;
    }

    int file(int k, int what) {
        if (what < 0 || what > 3) {
            return REFUSED;
        }
        if (!calm) {
            return BUSY;
        }
        if (k < 0 || k >= files.size()) {
            return NONE;
        }
        byte[] name = files.keySet().toArray(new byte[0][])[k];
        PlainFile f = files.get(name);
        return what == 0 ? f.bytes.length : what == 1 ? f.id : what == 2 ? name.length : laid(f);
    }

    int where(int k, int s, int r) {
        if (!calm) {
            return BUSY;
        }
        if (k < 0 || k >= files.size() || s < 0 || s >= 19 || r < 0 || r >= copies || !fileAt(k).laid[s]) {
            return NONE;
        }
        return placement((fileAt(k).id * 31 + s * 7) % groups).get(r);
    }

    int onDisk(int k, int s, int r, int i) {
        int n = where(k, s, r);
        if (n < 0) {
            return n;
        }
        byte[] bytes = fileAt(k).bytes;
        return i < 0 || i >= 448 || s * 448 + i >= bytes.length ? NONE : bytes[s * 448 + i] & 255;
    }

    int holds(int n) {
        if (n < 0 || n >= nodes) {
            return REFUSED;
        }
        if (!calm) {
            return BUSY;
        }
        int held = 0;
        for (PlainFile f : files.values()) {
            for (int s = 0; s < 19; s++) {
                if (f.laid[s] && placement((f.id * 31 + s * 7) % groups).subList(0, copies).contains(n)) {
                    held++;
                }
            }
        }
        return held;
    }

    int audit() {
        return calm ? 0 : BUSY;
    }

    int count(int what) {
        int upNow = 0;
        for (boolean u : up) {
            upNow += u ? 1 : 0;
        }
        int[] all = {filesThen, bytesThen, laidThen, operations.size(), operations.size() - settled, epoch, upNow, set,
            replaced, tape.length, calm ? 1 : 0};
        return what < 0 || what >= all.length ? REFUSED : all[what];
    }

    private PlainFile fileAt(int k) {
        return new ArrayList<>(files.values()).get(k);
    }

    private static int laid(PlainFile f) {
        int n = 0;
        for (boolean l : f.laid) {
            n += l ? 1 : 0;
        }
        return n;
    }

    private int total() {
        int n = 0;
        for (PlainFile f : files.values()) {
            n += f.bytes.length;
        }
        return n;
    }

    static int draw(int g, int n) {
        int x = g * 40503 + n * 30011 + 12345;
        x = (x ^ (x >>> 7)) * 73244475;
        x = (x ^ (x >>> 13)) * 19349663;
        return (x ^ (x >>> 16)) & 2147483647;
    }

    private List<Integer> placement(int g) {
        List<Integer> order = new ArrayList<>();
        for (int n = 0; n < nodes; n++) {
            order.add(n);
        }
        order.sort((x, y) -> Integer.compare(draw(g, y), draw(g, x)));
        return order;
    }

    private void take(int number, Operation o) {
        PlainFile f = files.get(o.name0);
        switch (o.kind) {
            case 0: o.answer = make(number, o, f); break;
            case 1: o.answer = write(number, o, f, o.a); break;
            case 2: o.answer = write(number, o, f, f == null ? 0 : f.bytes.length); break;
            case 3: o.answer = cut(o, f); break;
            case 4: o.answer = read(o, f); break;
            case 5: o.answer = f == null ? NONE : files.remove(o.name0).bytes.length; break;
            case 6: o.answer = rename(o, f); break;
            case 7: o.answer = swap(o, f); break;
            case 8: o.answer = f == null ? NONE : f.bytes.length; break;
            default: o.answer = next(o);
        }
    }

    private int make(int number, Operation o, PlainFile f) {
        if (f != null) {
            return EXISTS;
        }
        if (files.size() == 48) {
            return FULL;
        }
        PlainFile made = new PlainFile();
        made.id = number;
        files.put(o.name0, made);
        return 0;
    }

    private int write(int number, Operation o, PlainFile f, int place) {
        int old = f == null ? 0 : f.bytes.length;
        int now = o.tape.length == 0 ? old : Math.max(old, place + o.tape.length);
        if (f == null && files.size() == 48 || now > 8192 || total() - old + now > 32768) {
            return FULL;
        }
        if (f == null) {
            make(number, o, null);
            f = files.get(o.name0);
        }
        f.bytes = Arrays.copyOf(f.bytes, now);
        for (int i = 0; i < o.tape.length; i++) {
            f.bytes[place + i] = o.tape[i];
            f.laid[(place + i) / 448] = true;
        }
        return o.tape.length;
    }

    private int cut(Operation o, PlainFile f) {
        if (f == null) {
            return NONE;
        }
        int old = f.bytes.length;
        if (total() - old + o.a > 32768) {
            return FULL;
        }
        f.bytes = Arrays.copyOf(f.bytes, o.a);
        for (int s = 0; s < 19; s++) {
            f.laid[s] &= s * 448 < o.a;
        }
        return old;
    }

    private int read(Operation o, PlainFile f) {
        if (f == null) {
            return NONE;
        }
        int to = Math.min(f.bytes.length, o.a + o.b);
        o.told = o.a < to ? Arrays.copyOfRange(f.bytes, o.a, to) : new byte[0];
        return o.told.length;
    }

    private int rename(Operation o, PlainFile f) {
        if (f == null) {
            return NONE;
        }
        if (Arrays.equals(o.name0, o.name1)) {
            return 0;
        }
        files.remove(o.name0);
        return files.put(o.name1, f) == null ? 0 : 1;
    }

    private int swap(Operation o, PlainFile f) {
        PlainFile g = files.get(o.name1);
        if (f == null || g == null) {
            return NONE;
        }
        files.put(o.name0, g);
        files.put(o.name1, f);
        return 0;
    }

    private int next(Operation o) {
        byte[] next = files.higherKey(o.name0);
        o.told = next == null ? o.told : next;
        return next == null ? NONE : next.length;
    }
}
