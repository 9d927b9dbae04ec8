import java.util.Arrays;

/**
 * A store of files over NODES that fail.
 *
 * All that is kept is kept in ITEMS of one block each: the bytes of a STRIPE, the RECORD of a FILE (its NAME, its
 * length, which STRIPES are LAID), and the ROOT (which FILES there are). An ITEM bears the number of the OPERATION
 * that made it, its VERSION, and is never changed: an OPERATION makes new ITEMS beside the old ones, and takes effect
 * when the new ROOT stands on all NODES of GROUP 0. So whoever does an OPERATION again, from the same ROOT, makes the
 * very same ITEMS, and two NODES that both think they lead do no harm.
 *
 * Why nothing is lost: an ITEM that is wanted goes from a DISK only if all R NODES of its GROUP were seen, under the
 * very MAP that the order to drop it comes under, to have it FLUSHED. Under that MAP those R drop nothing that is
 * wanted, and under a later one only when R others were seen to have it; at most R - 1 DISKS are replaced between two
 * calls of settle, so one of the R that were seen last still has it.
 */
public final class StripedStore {
    public static final int REFUSED = -1, NONE = -2, EXISTS = -3, FULL = -4;
    public static final int PENDING = -5, BUSY = -6, STUCK = -7;

    private static final int MAKE = 0, WRITE = 1, APPEND = 2, CUT = 3, READ = 4, REMOVE = 5;
    private static final int RENAME = 6, SWAP = 7, SIZE = 8, NEXT = 9;

    private static final int MAX_FILES = 48, MAX_SIZE = 8192, MAX_BYTES = 32768, MAX_TAPE = 2048, MAX_NAME = 200;
    private static final int MAX_OPEN = 12, MAX_TICKS = 2000, MAX_GROUPS = 16;
    /** Far more than can come between two TICKS. */
    private static final int MANY_MESSAGES = 1000000;
    /** An object is used for 512 calls, so there are no more OPERATIONS than that. */
    private static final int OPERATIONS = 512;
    private static final int NOTHING = -1;

    /** Four bytes to a word, the first one highest: a quarter of the elements that single bytes would take. */
    private static final int BLOCK_WORDS = 128, BLOCK_BYTES = 512;
    /** A block begins and ends with its STAMP; what its ITEM says stands from HEAD_WORDS on. */
    private static final int HEAD_WORDS = 15, HEAD_BYTES = 60, LAST_WORD = BLOCK_WORDS - 1;
    private static final int STRIPE_BYTES = 448, NAME_WORDS = 50, TAPE_WORDS = 512;
    private static final int TAPE_AT = 2 * NAME_WORDS, ASK_WORDS = TAPE_AT + TAPE_WORDS;

    /** The parts of a FILE: its STRIPES 0 to 18, and its RECORD. */
    private static final int STRIPES = 19, RECORD = 19, PARTS = 20;
    private static final int ROOT = MAX_FILES * PARTS, ITEMS = ROOT + 1;
    /** No FILE has this ID. */
    private static final int ROOT_ID = OPERATIONS;

    /**
     * At most 170 ITEMS are wanted at once (121 STRIPES, 48 RECORDS, the ROOT), and the 12 OPERATIONS up to the next
     * call of settle make at most 8 each: a DISK of 280 blocks has room for all of them, also if none is dropped.
     */
    private static final int SLOTS = 280;

    /** The kinds of MESSAGES. */
    private static final int MAP = 0, HEARD = 1, ASK = 2, TOLD = 3, LIST = 4, LISTED = 5;
    private static final int GET = 6, ITEM = 7, LACK = 8, SEND = 9, PUT = 10, HAVE = 11, DROP = 12;

    /** How far the leader has come with an OPERATION. */
    private static final int IDLE = 0, WAIT = 1, FETCH = 2, STORE = 3, COMMIT = 4, TELL = 5;

    private final Ranks ranks;
    private final Net net = new Net();
    private final Askers askers;
    private final Node[] nodes;
    /** What the DISKS said at the end of the latest call of settle, and its FILES by their NAMES. */
    private final Table table;
    private final int[] order = new int[MAX_FILES];
    /** For audit: where the first COPY of each ITEM was seen. */
    private final int[] seenAt = new int[ITEMS];
    private int bytes, laid, replaced;
    private boolean calm;

    public StripedStore(int nodes, int copies, int groups) {
        ranks = new Ranks(clamp(nodes, 3, 6), clamp(copies, 2, 3), clamp(groups, 1, MAX_GROUPS));
        askers = new Askers(ranks, net);
        table = new Table(ranks.groups);
        this.nodes = new Node[ranks.nodes];
        for (int n = 0; n < ranks.nodes; n++) {
            this.nodes[n] = new Node(n, ranks, net);
            this.nodes[n].wake(askers.epoch, askers.set);
        }
    }

    public int feed(int a, int b, int c, int d, int e) {
        if (askers.length + 20 > MAX_TAPE) {
            return FULL;
        }
        askers.addWord(a);
        askers.addWord(b);
        askers.addWord(c);
        askers.addWord(d);
        askers.addWord(e);
        return askers.length;
    }

    public int end(int n) {
        if (n < 0 || n > askers.length) {
            return REFUSED;
        }
        askers.length = n;
        return n;
    }

    public int name(int k) {
        if (k < 0 || k > 1 || askers.length > MAX_NAME) {
            return REFUSED;
        }
        return askers.takeName(k);
    }

    public int begin(int kind, int a, int b) {
        if (!askers.mayAsk(kind, a, b)) {
            return REFUSED;
        }
        if (askers.begun - askers.settled >= MAX_OPEN || askers.begun >= OPERATIONS) {
            return FULL;
        }
        calm = false;
        return askers.open(kind, a, b);
    }

    public void deliver(int k) {
        calm = false;
        if (net.count > 0) {
            handOver(net.take(Math.floorMod(k, net.count)));
        }
    }

    public void lose(int k) {
        calm = false;
        if (net.count > 0) {
            net.take(Math.floorMod(k, net.count));
        }
    }

    public void twice(int k) {
        calm = false;
        if (net.count > 0) {
            handOver(net.way[Math.floorMod(k, net.count)]);
        }
    }

    public int stir(int n, int seed) {
        if (n < 1 || n > 500) {
            return REFUSED;
        }
        calm = false;
        int x = seed;
        for (int i = 0; i < n && net.count > 0; i++) {
            x = x * 1103515245 + 12345;
            int which = (x >>> 8) % net.count;
            int what = x >>> 28;
            if (what == 0) {
                handOver(net.way[which]);
            } else {
                Message m = net.take(which);
                if (what > 2) {
                    handOver(m);
                }
            }
        }
        return n;
    }

    public int tick(int n) {
        if (n < 1 || n > 50) {
            return REFUSED;
        }
        calm = false;
        for (int i = 0; i < n; i++) {
            passTick();
        }
        return n;
    }

    public boolean crash(int n, int mask, int part) {
        if (n < 0 || n >= nodes.length || !nodes[n].up) {
            return false;
        }
        calm = false;
        nodes[n].sleep(mask, part);
        return true;
    }

    public boolean restart(int n) {
        if (n < 0 || n >= nodes.length || nodes[n].up) {
            return false;
        }
        calm = false;
        nodes[n].wake(askers.epoch, askers.set);
        return true;
    }

    public int map(int set) {
        calm = false;
        askers.drawMap(set & everyNode());
        return askers.epoch;
    }

    public boolean replace(int n) {
        if (n < 0 || n >= nodes.length || nodes[n].up || replaced >= ranks.copies - 1) {
            return false;
        }
        calm = false;
        replaced++;
        nodes[n].disk.wipe();
        askers.drawMap(askers.set);
        return true;
    }

    public int settle() {
        calm = false;
        int open = askers.begun - askers.settled;
        askers.drawMap(everyNode());
        for (int n = 0; n < nodes.length; n++) {
            if (!nodes[n].up) {
                nodes[n].wake(askers.epoch, askers.set);
            }
        }
        for (int t = 0; t <= MAX_TICKS && !isDone(); t++) {
            if (t > 0) {
                passTick();
            }
            for (int i = 0; i < MANY_MESSAGES && net.count > 0; i++) {
                handOver(net.take(0));
            }
        }
        if (!isDone()) {
            return STUCK;
        }
        askers.publish();
        readCatalogue();
        replaced = 0;
        calm = true;
        return open;
    }

    public int answer(int operation) {
        if (operation < 0 || operation >= askers.begun) {
            return REFUSED;
        }
        return operation < askers.settled ? askers.answers[operation] : PENDING;
    }

    public int told(int operation, int i) {
        if (operation < askers.since || operation >= askers.settled) {
            return NONE;
        }
        Asked asked = askers.asked[operation % askers.asked.length];
        if (i < 0 || i >= asked.toldLength) {
            return NONE;
        }
        return Bytes.at(asked.words, TAPE_AT * 4 + i);
    }

    public int file(int k, int what) {
        if (what < 0 || what > 3) {
            return REFUSED;
        }
        if (!calm) {
            return BUSY;
        }
        if (k < 0 || k >= table.files) {
            return NONE;
        }
        int f = order[k];
        if (what == 0) {
            return table.size[f];
        }
        if (what == 1) {
            return table.id[f];
        }
        return what == 2 ? table.nameLength[f] : table.laidOf(f);
    }

    public int where(int k, int s, int r) {
        if (!calm) {
            return BUSY;
        }
        int at = stripeAt(k, s);
        if (at < 0 || r < 0 || r >= ranks.copies) {
            return NONE;
        }
        return ranks.nodeOf(table.groupOf(at), r, askers.set);
    }

    public int onDisk(int k, int s, int r, int i) {
        int n = where(k, s, r);
        if (n < 0) {
            return n;
        }
        int length = Math.min(STRIPE_BYTES, table.size[order[k]] - s * STRIPE_BYTES);
        int slot = nodes[n].disk.seek(table.tagAt(stripeAt(k, s)));
        if (i < 0 || i >= length || slot < 0) {
            return NONE;
        }
        return Bytes.at(nodes[n].disk.flushed, slot * BLOCK_BYTES + HEAD_BYTES + i);
    }

    public int holds(int n) {
        if (n < 0 || n >= nodes.length) {
            return REFUSED;
        }
        if (!calm) {
            return BUSY;
        }
        Disk disk = nodes[n].disk;
        int copies = 0;
        for (int slot = 0; slot < SLOTS; slot++) {
            if (disk.isWhole(slot) && Table.isStripe(disk.tagAt(slot))) {
                copies++;
            }
        }
        return copies;
    }

    public int audit() {
        if (!calm) {
            return BUSY;
        }
        Arrays.fill(table.holders, 0);
        int wrong = 0;
        for (int n = 0; n < nodes.length; n++) {
            wrong += auditDisk(n);
        }
        for (int at = 0; at < ITEMS; at++) {
            if (table.version[at] >= 0) {
                wrong += ranks.copies - Integer.bitCount(table.holders[at]);
            }
        }
        return wrong;
    }

    public int count(int what) {
        switch (what) {
            case 0: return table.files;
            case 1: return bytes;
            case 2: return laid;
            case 3: return askers.begun;
            case 4: return askers.begun - askers.settled;
            case 5: return askers.epoch;
            case 6: return countUp();
            case 7: return askers.set;
            case 8: return replaced;
            case 9: return askers.length;
            case 10: return calm ? 1 : 0;
            default: return REFUSED;
        }
    }

    private static int clamp(int x, int least, int most) {
        return Math.max(least, Math.min(most, x));
    }

    private int everyNode() {
        return (1 << ranks.nodes) - 1;
    }

    private int countUp() {
        int up = 0;
        for (int n = 0; n < nodes.length; n++) {
            if (nodes[n].up) {
                up++;
            }
        }
        return up;
    }

    private void handOver(Message m) {
        if (m.to == ranks.nodes) {
            askers.hear(m);
        } else if (m.to >= 0 && m.to < nodes.length && nodes[m.to].up) {
            nodes[m.to].hear(m);
        }
    }

    private void passTick() {
        askers.work();
        for (int n = 0; n < nodes.length; n++) {
            if (nodes[n].up) {
                nodes[n].work();
            }
        }
    }

    private boolean isDone() {
        if (askers.heard < askers.begun || askers.mapHeard != askers.set || net.count > 0) {
            return false;
        }
        for (int n = 0; n < nodes.length; n++) {
            if (nodes[n].disk.count > 0) {
                return false;
            }
        }
        int first = ranks.nodeOf(0, 0, askers.set);
        return first >= 0 && nodes[first].leader.isClean();
    }

    /** From the DISKS, not from what some NODE has in its memory: what is told of a CALM store has to stand there. */
    private void readCatalogue() {
        table.forget();
        bytes = 0;
        laid = 0;
        int first = ranks.nodeOf(0, 0, askers.set);
        if (first < 0) {
            return;
        }
        Disk disk = nodes[first].disk;
        int root = disk.seekRoot();
        if (root >= 0) {
            table.readRoot(disk.flushed, root * BLOCK_WORDS);
        }
        for (int f = 0; f < table.files; f++) {
            int slot = disk.seek(table.tagAt(f * PARTS + RECORD));
            if (slot >= 0) {
                table.readRecord(disk.flushed, slot * BLOCK_WORDS);
            }
            bytes += table.size[f];
            laid += table.laidOf(f);
            sortIn(f);
        }
    }

    private void sortIn(int f) {
        int k = f;
        while (k > 0 && table.compare(f, order[k - 1]) < 0) {
            order[k] = order[k - 1];
            k--;
        }
        order[k] = f;
    }

    private int stripeAt(int k, int s) {
        if (k < 0 || k >= table.files || s < 0 || s >= STRIPES) {
            return NOTHING;
        }
        int at = order[k] * PARTS + s;
        return table.version[at] < 0 ? NOTHING : at;
    }

    private int auditDisk(int n) {
        Disk disk = nodes[n].disk;
        int wrong = 0;
        for (int slot = 0; slot < SLOTS; slot++) {
            if (disk.isWhole(slot)) {
                int at = table.find(disk.tagAt(slot));
                if (at < 0 || (ranks.maskOf(table.groupOf(at), askers.set) >> n & 1) == 0
                        || (table.holders[at] >> n & 1) != 0) {
                    wrong++;
                } else if (!isLikeFirst(at, n * SLOTS + slot)) {
                    wrong++;
                }
            }
        }
        return wrong;
    }

    private boolean isLikeFirst(int at, int place) {
        if (table.holders[at] == 0) {
            seenAt[at] = place;
        }
        table.holders[at] |= 1 << place / SLOTS;
        int[] x = nodes[seenAt[at] / SLOTS].disk.flushed;
        int[] y = nodes[place / SLOTS].disk.flushed;
        int i = seenAt[at] % SLOTS * BLOCK_WORDS;
        int j = place % SLOTS * BLOCK_WORDS;
        for (int w = 1; w < LAST_WORD; w++) {
            if (x[i + w] != y[j + w]) {
                return false;
            }
        }
        return true;
    }

    /** Bytes in words. */
    private static final class Bytes {
        /** Words are compared without sign by turning it round. */
        private static final int SIGN = 1 << 31;

        static int at(int[] words, int i) {
            return words[i >> 2] >>> 24 - 8 * (i & 3) & 255;
        }

        static void set(int[] words, int i, int value) {
            int shift = 24 - 8 * (i & 3);
            words[i >> 2] = words[i >> 2] & ~(255 << shift) | (value & 255) << shift;
        }

        static void move(int[] from, int i, int[] to, int j, int n) {
            int k = 0;
            if ((i & 3) == 0 && (j & 3) == 0) {
                System.arraycopy(from, i >> 2, to, j >> 2, n >> 2);
                k = n >> 2 << 2;
            }
            while (k < n) {
                int value = from[i + k >> 2] >>> 24 - 8 * (i + k & 3) & 255;
                int shift = 24 - 8 * (j + k & 3);
                to[j + k >> 2] = to[j + k >> 2] & ~(255 << shift) | value << shift;
                k++;
            }
        }

        static void clear(int[] words, int i, int n) {
            for (int k = i; k < i + n; k++) {
                words[k >> 2] &= ~(255 << 24 - 8 * (k & 3));
            }
        }

        /** Two NAMES: behind their ends there are zeros, so words can be compared before lengths are. */
        static int compare(int[] x, int xAt, int xLength, int[] y, int yAt, int yLength) {
            for (int w = 0; w < NAME_WORDS; w++) {
                if (x[xAt + w] != y[yAt + w]) {
                    return Integer.compare(x[xAt + w] ^ SIGN, y[yAt + w] ^ SIGN);
                }
            }
            return Integer.compare(xLength, yLength);
        }
    }

    /** The placement that everybody can reckon. */
    private static final class Ranks {
        final int nodes, copies, groups;
        /** For each GROUP the NODES, the greatest DRAW first. */
        final int[] order;

        Ranks(int nodes, int copies, int groups) {
            this.nodes = nodes;
            this.copies = copies;
            this.groups = groups;
            order = new int[groups * nodes];
            for (int g = 0; g < groups; g++) {
                for (int n = 0; n < nodes; n++) {
                    int i = n;
                    while (i > 0 && draw(g, n) > draw(g, order[g * nodes + i - 1])) {
                        order[g * nodes + i] = order[g * nodes + i - 1];
                        i--;
                    }
                    order[g * nodes + i] = n;
                }
            }
        }

        static int draw(int g, int n) {
            int x = g * 40503 + n * 30011 + 12345;
            x = (x ^ x >>> 7) * 73244475;
            x = (x ^ x >>> 13) * 19349663;
            return (x ^ x >>> 16) & 2147483647;
        }

        /** The NODE of COPY r if those of set are IN. */
        int nodeOf(int g, int r, int set) {
            int before = 0;
            for (int i = 0; i < nodes; i++) {
                int n = order[g * nodes + i];
                if ((set >> n & 1) != 0) {
                    if (before == r) {
                        return n;
                    }
                    before++;
                }
            }
            return NOTHING;
        }

        /** The NODES of all COPIES; none if fewer than R are IN, as the GROUP does not work then. */
        int maskOf(int g, int set) {
            int mask = 0;
            int found = 0;
            for (int i = 0; i < nodes && found < copies; i++) {
                int n = order[g * nodes + i];
                if ((set >> n & 1) != 0) {
                    mask |= 1 << n;
                    found++;
                }
            }
            return found == copies ? mask : 0;
        }
    }

    /** What it says beside its body depends on its kind; EPOCH and set are those of the MAP it was sent under. */
    private static final class Message {
        int kind, from, to, epoch, set;
        int tag, value, count;
        final int[] body = new int[5 + ASK_WORDS];
    }

    /** The MESSAGES under way. */
    private static final class Net {
        final Message[] way = new Message[128];
        int count;
        /** What was taken last: it is read while others are sent, so it must not be one of those to be used again. */
        private Message taken = new Message();
        /** With too many under way another one is lost: it is written here. */
        private final Message lost = new Message();

        Net() {
            for (int i = 0; i < way.length; i++) {
                way[i] = new Message();
            }
        }

        Message post(int kind, int from, int to, int epoch, int set) {
            Message m = lost;
            if (count < way.length) {
                m = way[count];
                count++;
            }
            m.kind = kind;
            m.from = from;
            m.to = to;
            m.epoch = epoch;
            m.set = set;
            m.tag = NOTHING;
            m.value = 0;
            m.count = 0;
            return m;
        }

        Message take(int i) {
            Message m = way[i];
            count--;
            way[i] = way[count];
            way[count] = taken;
            taken = m;
            return m;
        }
    }

    /**
     * A DISK that is a journal through and through: a block is only written where nothing stands that is wanted, and
     * counts only if it is whole. So there is nothing to undo or to do again after a CRASH.
     *
     * How it is known to be whole, whatever its bytes are: its first byte and its last one are its STAMP, the same if
     * it is whole, and a new block gets another STAMP than the last byte that stands in its place. If only some of its
     * first bytes come to stand, the first byte is new and the last one old: they differ.
     */
    private static final class Disk {
        private static final int FRESH = 32;
        final int[] flushed = new int[SLOTS * BLOCK_WORDS];
        /** The blocks written since the latest FLUSH: what they are, which ones, and the other way round. */
        private final int[] fresh = new int[FRESH * BLOCK_WORDS];
        private final int[] slotOf = new int[FRESH];
        private final int[] freshOf = new int[SLOTS];
        int count;

        Disk() {
            Arrays.fill(freshOf, NOTHING);
        }

        static void seal(int[] words, int at, int tag) {
            words[at + 1] = tag;
            stamp(words, at, 1);
        }

        static boolean isSealed(int[] words, int at) {
            return words[at] != 0;
        }

        private static void stamp(int[] words, int at, int value) {
            words[at] = value << 24;
            words[at + LAST_WORD] = value;
        }

        /** 1 or 2, and not what stands there: a new DISK, and a block that was erased, have 0. */
        private int otherStamp(int slot) {
            return (flushed[slot * BLOCK_WORDS + LAST_WORD] & 255) == 1 ? 2 : 1;
        }

        boolean isFull() {
            return count == FRESH;
        }

        boolean isFresh(int slot) {
            return freshOf[slot] >= 0;
        }

        int freshSlot(int i) {
            return slotOf[i];
        }

        void write(int slot, int[] words) {
            int f = openFresh(slot);
            if (f >= 0) {
                System.arraycopy(words, 0, fresh, f * BLOCK_WORDS, BLOCK_WORDS);
                stamp(fresh, f * BLOCK_WORDS, otherStamp(slot));
            }
        }

        void erase(int slot) {
            int f = openFresh(slot);
            if (f >= 0) {
                Arrays.fill(fresh, f * BLOCK_WORDS, (f + 1) * BLOCK_WORDS, 0);
            }
        }

        private int openFresh(int slot) {
            if (freshOf[slot] < 0 && count < FRESH) {
                freshOf[slot] = count;
                slotOf[count] = slot;
                count++;
            }
            return freshOf[slot];
        }

        void flush() {
            for (int i = 0; i < count; i++) {
                System.arraycopy(fresh, i * BLOCK_WORDS, flushed, slotOf[i] * BLOCK_WORDS, BLOCK_WORDS);
                freshOf[slotOf[i]] = NOTHING;
            }
            count = 0;
        }

        /** Of the blocks not FLUSHED those of mask stand, and of the first other one its first part bytes. */
        void fail(int mask, int part) {
            boolean torn = false;
            for (int i = 0; i < count; i++) {
                int to = slotOf[i] * BLOCK_WORDS;
                if ((mask >>> (i & 31) & 1) != 0) {
                    System.arraycopy(fresh, i * BLOCK_WORDS, flushed, to, BLOCK_WORDS);
                } else if (!torn) {
                    torn = true;
                    Bytes.move(fresh, i * BLOCK_BYTES, flushed, to * 4, Math.max(0, Math.min(BLOCK_BYTES, part)));
                }
                freshOf[slotOf[i]] = NOTHING;
            }
            count = 0;
        }

        void wipe() {
            Arrays.fill(flushed, 0);
        }

        int tagAt(int slot) {
            return flushed[slot * BLOCK_WORDS + 1];
        }

        boolean isWhole(int slot) {
            int first = flushed[slot * BLOCK_WORDS] >>> 24;
            int last = flushed[slot * BLOCK_WORDS + LAST_WORD] & 255;
            return first != 0 && first == last;
        }

        int seek(int tag) {
            for (int slot = 0; slot < SLOTS; slot++) {
                if (tagAt(slot) == tag && isWhole(slot)) {
                    return slot;
                }
            }
            return NOTHING;
        }

        int seekRoot() {
            int best = NOTHING;
            for (int slot = 0; slot < SLOTS; slot++) {
                if (Table.isRoot(tagAt(slot)) && isWhole(slot) && (best < 0 || tagAt(slot) > tagAt(best))) {
                    best = slot;
                }
            }
            return best;
        }
    }

    /**
     * A NODE keeps ITEMS and gives them to others, whatever they are; only the first NODE of GROUP 0 leads, and knows
     * what they mean. It hears nothing that was sent under an older MAP than its own: on that rests what is dropped.
     */
    private static final class Node {
        final int number;
        private final Ranks ranks;
        private final Net net;
        final Disk disk = new Disk();
        final Leader leader;
        /** Which ITEM each block of the DISK has. */
        private final int[] tags = new int[SLOTS];
        boolean up;
        private int epoch, set;

        Node(int number, Ranks ranks, Net net) {
            this.number = number;
            this.ranks = ranks;
            this.net = net;
            leader = new Leader(number, ranks, net);
            Arrays.fill(tags, NOTHING);
        }

        void wake(int newEpoch, int newSet) {
            up = true;
            readDisk();
            follow(newEpoch, newSet);
        }

        void sleep(int mask, int part) {
            up = false;
            disk.fail(mask, part);
            Arrays.fill(tags, NOTHING);
            leader.rest();
        }

        /** A block that was erased may stand again, and its ITEM elsewhere too: then one of the two is enough. */
        private void readDisk() {
            for (int slot = 0; slot < SLOTS; slot++) {
                int tag = disk.isWhole(slot) ? disk.tagAt(slot) : NOTHING;
                if (tag >= 0 && slotOf(tag) >= 0) {
                    if (disk.isFull()) {
                        disk.flush();
                    }
                    disk.erase(slot);
                    tag = NOTHING;
                }
                tags[slot] = tag;
            }
        }

        private void follow(int newEpoch, int newSet) {
            epoch = newEpoch;
            set = newSet;
            if (leads()) {
                leader.start(epoch, set);
            } else {
                leader.rest();
            }
        }

        private boolean leads() {
            return ranks.nodeOf(0, 0, set) == number;
        }

        void work() {
            flushAndTell();
            if (leads()) {
                leader.work();
                leader.goOn();
            }
        }

        void hear(Message m) {
            if (m.epoch < epoch) {
                return;
            }
            if (m.epoch > epoch) {
                follow(m.epoch, m.set);
            }
            switch (m.kind) {
                case MAP: net.post(HEARD, number, ranks.nodes, epoch, set); break;
                case LIST: list(m.from); break;
                case GET: give(ITEM, m.tag, m.from, m.from); break;
                case SEND: give(PUT, m.tag, m.value, m.from); break;
                case PUT: store(m); break;
                case DROP: dropAll(m); break;
                default:
                    if (leads()) {
                        leader.hear(m);
                        leader.goOn();
                    }
            }
        }

        private int slotOf(int tag) {
            for (int slot = 0; slot < SLOTS; slot++) {
                if (tags[slot] == tag) {
                    return slot;
                }
            }
            return NOTHING;
        }

        /** Not one that was erased since the latest FLUSH: between two of them a block is written once. */
        private int freeSlot() {
            for (int slot = 0; slot < SLOTS; slot++) {
                if (tags[slot] == NOTHING && !disk.isFresh(slot)) {
                    return slot;
                }
            }
            return NOTHING;
        }

        /** Only what is FLUSHED is told of: the leader takes it for what stays. */
        private void list(int to) {
            Message m = net.post(LISTED, number, to, epoch, set);
            for (int slot = 0; slot < SLOTS; slot++) {
                if (tags[slot] >= 0 && !disk.isFresh(slot)) {
                    m.body[m.count] = tags[slot];
                    m.count++;
                }
            }
            m.value = disk.count;
        }

        private void give(int kind, int tag, int to, int asker) {
            int slot = slotOf(tag);
            if (slot < 0 || disk.isFresh(slot)) {
                net.post(LACK, number, asker, epoch, set).tag = tag;
                return;
            }
            Message m = net.post(kind, number, to, epoch, set);
            m.tag = tag;
            System.arraycopy(disk.flushed, slot * BLOCK_WORDS, m.body, 0, BLOCK_WORDS);
        }

        private void store(Message m) {
            int slot = slotOf(m.tag);
            if (slot < 0) {
                if (disk.isFull()) {
                    flushAndTell();
                }
                slot = freeSlot();
                if (slot >= 0) {
                    disk.write(slot, m.body);
                    tags[slot] = m.tag;
                }
            } else if (!disk.isFresh(slot)) {
                Message have = net.post(HAVE, number, ranks.nodeOf(0, 0, set), epoch, set);
                have.body[0] = m.tag;
                have.count = 1;
            }
        }

        private void dropAll(Message m) {
            for (int i = 0; i < m.count; i++) {
                int slot = slotOf(m.body[i]);
                if (slot >= 0) {
                    if (disk.isFull()) {
                        flushAndTell();
                    }
                    disk.erase(slot);
                    tags[slot] = NOTHING;
                }
            }
        }

        private void flushAndTell() {
            if (disk.count == 0) {
                return;
            }
            Message have = net.post(HAVE, number, ranks.nodeOf(0, 0, set), epoch, set);
            for (int i = 0; i < disk.count; i++) {
                int tag = tags[disk.freshSlot(i)];
                if (tag >= 0) {
                    have.body[have.count] = tag;
                    have.count++;
                }
            }
            disk.flush();
        }
    }

    /** What ROOT and RECORDS say: FILES and the VERSIONS of their ITEMS; and which NODES are known to have those. */
    private static final class Table {
        private static final int TAGS_OF_ID = PARTS * OPERATIONS;
        private final int groups;
        final int[] id = new int[MAX_FILES];
        final int[] size = new int[MAX_FILES];
        final int[] nameLength = new int[MAX_FILES];
        private final int[] names = new int[MAX_FILES * NAME_WORDS];
        private final int[] fileOf = new int[OPERATIONS];
        final int[] version = new int[ITEMS];
        final int[] holders = new int[ITEMS];
        /** The FILES whose RECORDS were read. */
        private long known;
        int files;
        /** Of the OPERATION that made the ROOT, for those who did not hear of it. */
        int answer;

        Table(int groups) {
            this.groups = groups;
            forget();
        }

        static int versionOf(int tag) {
            return tag % OPERATIONS;
        }

        static boolean isRoot(int tag) {
            return tag / TAGS_OF_ID == ROOT_ID;
        }

        static boolean isStripe(int tag) {
            return tag / TAGS_OF_ID != ROOT_ID && tag / OPERATIONS % PARTS < STRIPES;
        }

        void forget() {
            Arrays.fill(id, NOTHING);
            Arrays.fill(size, 0);
            Arrays.fill(fileOf, NOTHING);
            Arrays.fill(version, NOTHING);
            Arrays.fill(holders, 0);
            known = 0;
            files = 0;
            answer = 0;
        }

        boolean isKnown() {
            return Long.bitCount(known) == files;
        }

        boolean knows(int f) {
            return (known >> f & 1) != 0;
        }

        /** Where the ITEM is in version and holders, if it is wanted. */
        int find(int tag) {
            int i = tag / TAGS_OF_ID;
            int at = NOTHING;
            if (i == ROOT_ID) {
                at = ROOT;
            } else if (tag >= 0 && i < OPERATIONS && fileOf[i] >= 0) {
                at = fileOf[i] * PARTS + tag / OPERATIONS % PARTS;
            }
            return at >= 0 && version[at] == tag % OPERATIONS ? at : NOTHING;
        }

        /** An ITEM as a number: what it is of, which part of that, and its VERSION. */
        int tagAt(int at) {
            int part = at == ROOT ? ROOT_ID * PARTS : id[at / PARTS] * PARTS + at % PARTS;
            return part * OPERATIONS + version[at];
        }

        /** NAMES and what belongs to them are kept by GROUP 0. */
        int groupOf(int at) {
            int part = at % PARTS;
            return at == ROOT || part == RECORD ? 0 : (id[at / PARTS] * 31 + part * 7) % groups;
        }

        int laidOf(int f) {
            int n = 0;
            for (int s = 0; s < STRIPES; s++) {
                if (version[f * PARTS + s] >= 0) {
                    n++;
                }
            }
            return n;
        }

        int total() {
            int n = 0;
            for (int f = 0; f < MAX_FILES; f++) {
                n += size[f];
            }
            return n;
        }

        int compare(int f, int g) {
            return Bytes.compare(names, f * NAME_WORDS, nameLength[f], names, g * NAME_WORDS, nameLength[g]);
        }

        int named(int[] words, int at, int length) {
            for (int f = 0; f < MAX_FILES; f++) {
                if (id[f] >= 0 && nameLength[f] == length
                        && Bytes.compare(names, f * NAME_WORDS, length, words, at, length) == 0) {
                    return f;
                }
            }
            return NOTHING;
        }

        int firstAfter(int[] words, int length) {
            int best = NOTHING;
            for (int f = 0; f < MAX_FILES; f++) {
                int at = f * NAME_WORDS;
                if (id[f] >= 0 && Bytes.compare(names, at, nameLength[f], words, 0, length) > 0 && (best < 0
                        || Bytes.compare(names, at, nameLength[f], names, best * NAME_WORDS, nameLength[best]) < 0)) {
                    best = f;
                }
            }
            return best;
        }

        void setName(int f, int[] words, int at, int length) {
            System.arraycopy(words, at, names, f * NAME_WORDS, NAME_WORDS);
            nameLength[f] = length;
        }

        void copyName(int f, int[] words, int at) {
            System.arraycopy(names, f * NAME_WORDS, words, at, NAME_WORDS);
        }

        int add(int newId) {
            int f = 0;
            while (f < MAX_FILES - 1 && id[f] >= 0) {
                f++;
            }
            id[f] = newId;
            fileOf[newId] = f;
            known |= 1L << f;
            files++;
            return f;
        }

        void remove(int f) {
            fileOf[id[f]] = NOTHING;
            id[f] = NOTHING;
            size[f] = 0;
            Arrays.fill(version, f * PARTS, (f + 1) * PARTS, NOTHING);
            known &= ~(1L << f);
            files--;
        }

        void renew(int at, int newVersion) {
            version[at] = newVersion;
            holders[at] = 0;
        }

        /** By their IDs, whatever their order here: all who make the same ROOT must make the same block. */
        void writeRoot(int[] words, int at) {
            int to = at + HEAD_WORDS;
            words[to] = files;
            words[to + 1] = answer;
            int n = 0;
            for (int i = 0; i < OPERATIONS && n < MAX_FILES; i++) {
                if (fileOf[i] >= 0) {
                    words[to + 2 + 2 * n] = i;
                    words[to + 3 + 2 * n] = version[fileOf[i] * PARTS + RECORD];
                    n++;
                }
            }
        }

        void readRoot(int[] words, int at) {
            forget();
            int from = at + HEAD_WORDS;
            version[ROOT] = versionOf(words[at + 1]);
            files = Math.max(0, Math.min(MAX_FILES, words[from]));
            answer = words[from + 1];
            for (int f = 0; f < files; f++) {
                id[f] = words[from + 2 + 2 * f] & OPERATIONS - 1;
                fileOf[id[f]] = f;
                version[f * PARTS + RECORD] = words[from + 3 + 2 * f];
            }
        }

        void writeRecord(int f, int[] words, int at) {
            int to = at + HEAD_WORDS;
            words[to] = size[f];
            words[to + 1] = nameLength[f];
            copyName(f, words, to + 2);
            System.arraycopy(version, f * PARTS, words, to + 2 + NAME_WORDS, STRIPES);
        }

        void readRecord(int[] words, int at) {
            int item = find(words[at + 1]);
            if (item < 0 || item % PARTS != RECORD || knows(item / PARTS)) {
                return;
            }
            int f = item / PARTS;
            int from = at + HEAD_WORDS;
            size[f] = words[from];
            setName(f, words, from + 2, words[from + 1]);
            System.arraycopy(words, from + 2 + NAME_WORDS, version, f * PARTS, STRIPES);
            known |= 1L << f;
        }
    }

    /** The OPERATION that the leader does: what was asked, what it needs for that, and the ITEMS that it makes. */
    private static final class Work {
        private static final int RECORD_BLOCK = 6, ROOT_BLOCK = 8, BLOCKS = 9;
        private final Table table;
        final Asked asked = new Asked();
        final int[] blocks = new int[BLOCKS * BLOCK_WORDS];
        int step, op = NOTHING, answer;
        /** The latest OPERATION with an effect that those who ask had heard of. */
        private int before;
        private int file, other;
        /** The bytes from a on that it reads or changes, the STRIPES they are in, and those still to be fetched. */
        private int span, first, count;
        int lacks;
        private int renewed, renewedToo;

        Work(Table table) {
            this.table = table;
        }

        /** An OPERATION is asked for only when all before it were heard of: one with a lesser number is late. */
        void take(Message m) {
            if (m.tag < op || m.tag == op && step != IDLE || step > WAIT) {
                return;
            }
            step = WAIT;
            op = m.tag;
            before = m.value;
            asked.readFrom(m);
        }

        boolean isActive() {
            return step > WAIT;
        }

        /**
         * Those who ask say which OPERATION was the latest with an effect. So a ROOT that is too old is seen at once;
         * if it is the OPERATION's own, that was done before, but not all NODES may have that ROOT.
         */
        void plan() {
            int root = table.version[ROOT];
            Arrays.fill(blocks, 0);
            lacks = 0;
            span = 0;
            count = 0;
            renewed = NOTHING;
            renewedToo = NOTHING;
            if (root > op) {
                step = IDLE;
            } else if (root == op) {
                answer = table.answer;
                step = STORE;
            } else if (root == before) {
                file = table.named(asked.words, 0, asked.length0);
                other = asked.kind == NEXT ? table.firstAfter(asked.words, asked.length0)
                    : table.named(asked.words, NAME_WORDS, asked.length1);
                answer = foretell(MAX_BYTES - table.total());
                if (answer >= 0) {
                    touch();
                }
                step = answer < 0 || asked.kind == SIZE || asked.kind == NEXT ? TELL : FETCH;
            }
        }

        private int foretell(int room) {
            int size = file < 0 ? 0 : table.size[file];
            switch (asked.kind) {
                case MAKE: return file >= 0 ? EXISTS : table.files == MAX_FILES ? FULL : 0;
                case WRITE: return foretellWrite(size, room);
                case APPEND: asked.a = size; return foretellWrite(size, room);
                case CUT: return file < 0 ? NONE : foretellCut(size, room);
                case READ: span = Math.max(0, Math.min(asked.b, size - asked.a)); return file < 0 ? NONE : span;
                case RENAME: return file < 0 ? NONE : other >= 0 && other != file ? 1 : 0;
                case SWAP: return file < 0 || other < 0 ? NONE : 0;
                case NEXT: return other < 0 ? NONE : table.nameLength[other];
                default: return file < 0 ? NONE : size;
            }
        }

        private int foretellWrite(int size, int room) {
            int longer = asked.length == 0 ? 0 : Math.max(0, asked.a + asked.length - size);
            if (file < 0 && table.files == MAX_FILES || size + longer > MAX_SIZE || longer > room) {
                return FULL;
            }
            span = asked.length;
            return asked.length;
        }

        /** Bytes behind the end of a FILE are 0 in its last STRIPE: so only a shorter FILE needs a new one. */
        private int foretellCut(int size, int room) {
            if (asked.a - size > room) {
                return FULL;
            }
            int s = asked.a / STRIPE_BYTES;
            boolean within = asked.a < size && asked.a % STRIPE_BYTES != 0;
            span = within && table.version[file * PARTS + s] >= 0 ? 1 : 0;
            return size;
        }

        private void touch() {
            if (asked.kind == NEXT) {
                table.copyName(other, asked.words, TAPE_AT);
            }
            if (span > 0) {
                first = asked.a / STRIPE_BYTES;
                count = (asked.a + span - 1) / STRIPE_BYTES - first + 1;
            }
            for (int i = 0; i < count; i++) {
                if (file >= 0 && table.version[file * PARTS + first + i] >= 0) {
                    lacks |= 1 << i;
                }
            }
        }

        /** Where the i-th of the STRIPES that it needs is in the table. */
        int neededAt(int i) {
            return i < count && (lacks >> i & 1) != 0 ? file * PARTS + first + i : NOTHING;
        }

        void fill(int at, int[] block) {
            for (int i = 0; i < count; i++) {
                if (step == FETCH && neededAt(i) == at) {
                    System.arraycopy(block, 0, blocks, i * BLOCK_WORDS, BLOCK_WORDS);
                    lacks &= ~(1 << i);
                }
            }
        }

        void change() {
            step = asked.kind == READ ? TELL : STORE;
            if (file < 0) {
                makeFile();
            }
            switch (asked.kind) {
                case MAKE: break;
                case WRITE:
                case APPEND: copySpan(true); lengthen(); break;
                case CUT: cut(); break;
                case READ: copySpan(false); break;
                case REMOVE: table.remove(file); break;
                case RENAME: rename(); break;
                default: swap();
            }
        }

        /** Only MAKE, WRITE and APPEND come so far without a FILE. */
        private void makeFile() {
            file = table.add(op);
            table.setName(file, asked.words, 0, asked.length0);
            renewed = file;
        }

        /** The bytes of the span, between what was asked and the blocks of the STRIPES that they are in. */
        private void copySpan(boolean toBlocks) {
            for (int i = 0; i < count; i++) {
                int start = (first + i) * STRIPE_BYTES;
                int from = Math.max(asked.a, start);
                int to = Math.min(asked.a + span, start + STRIPE_BYTES);
                int inAsked = TAPE_AT * 4 + from - asked.a;
                int inBlock = i * BLOCK_BYTES + HEAD_BYTES + from - start;
                if (toBlocks) {
                    Bytes.move(asked.words, inAsked, blocks, inBlock, to - from);
                } else {
                    Bytes.move(blocks, inBlock, asked.words, inAsked, to - from);
                }
            }
        }

        private void lengthen() {
            if (span > 0) {
                table.size[file] = Math.max(table.size[file], asked.a + span);
            }
            renewed = file;
        }

        private void cut() {
            if (count > 0) {
                int left = asked.a % STRIPE_BYTES;
                Bytes.clear(blocks, HEAD_BYTES + left, STRIPE_BYTES - left);
            }
            for (int s = 0; s < STRIPES; s++) {
                if (s * STRIPE_BYTES >= asked.a) {
                    table.version[file * PARTS + s] = NOTHING;
                }
            }
            table.size[file] = asked.a;
            renewed = file;
        }

        private void rename() {
            if (other == file) {
                return;
            }
            if (other >= 0) {
                table.remove(other);
            }
            table.setName(file, asked.words, NAME_WORDS, asked.length1);
            renewed = file;
        }

        private void swap() {
            if (other == file) {
                return;
            }
            table.setName(file, asked.words, NAME_WORDS, asked.length1);
            table.setName(other, asked.words, 0, asked.length0);
            renewed = file;
            renewedToo = other;
        }

        void sealItems() {
            if (step != STORE) {
                return;
            }
            for (int i = 0; i < count; i++) {
                int at = file * PARTS + first + i;
                table.renew(at, op);
                Disk.seal(blocks, i * BLOCK_WORDS, table.tagAt(at));
            }
            for (int i = RECORD_BLOCK; i < ROOT_BLOCK; i++) {
                int f = i == RECORD_BLOCK ? renewed : renewedToo;
                if (f >= 0) {
                    table.renew(f * PARTS + RECORD, op);
                    table.writeRecord(f, blocks, i * BLOCK_WORDS);
                    Disk.seal(blocks, i * BLOCK_WORDS, table.tagAt(f * PARTS + RECORD));
                }
            }
        }

        void sealRoot() {
            if (table.version[ROOT] != op) {
                table.renew(ROOT, op);
                table.answer = answer;
            }
            table.writeRoot(blocks, ROOT_BLOCK * BLOCK_WORDS);
            Disk.seal(blocks, ROOT_BLOCK * BLOCK_WORDS, table.tagAt(ROOT));
            step = COMMIT;
        }

        int toldLength() {
            return answer >= 0 && (asked.kind == READ || asked.kind == NEXT) ? answer : 0;
        }
    }

    /**
     * The first NODE of GROUP 0 does the OPERATIONS, and sees to it that all ITEMS come to the NODES where they
     * belong, and go from others. All it knows it was told of under its MAP; with another one it begins anew.
     */
    private static final class Leader {
        private static final int KEEP = 0, SPARE = 1, UNSURE = 2;
        /** How many ITEMS are sent to where they are missing at one TICK: the others find room at the next. */
        private static final int ORDERS = 24;
        private final int me;
        private final Ranks ranks;
        private final Net net;
        private final Table table;
        private final Work work;
        /** The NODES of each GROUP. */
        private final int[] masks = new int[MAX_GROUPS];
        private final int[] spare = new int[SLOTS];
        private int epoch, set;
        /** The NODES that it heard of, and those that have nothing but what they should have. */
        private int heard, clean;
        /** The RECORDS that were asked for since the latest TICK. */
        private long asked;
        private int nextItem, turn;
        /** Whether all ITEMS were seen to be where they belong since the table was changed. */
        private boolean mended;

        Leader(int me, Ranks ranks, Net net) {
            this.me = me;
            this.ranks = ranks;
            this.net = net;
            table = new Table(ranks.groups);
            work = new Work(table);
        }

        void start(int newEpoch, int newSet) {
            rest();
            epoch = newEpoch;
            set = newSet;
            for (int g = 0; g < ranks.groups; g++) {
                masks[g] = ranks.maskOf(g, set);
            }
            poll();
        }

        void rest() {
            table.forget();
            work.step = IDLE;
            work.op = NOTHING;
            heard = 0;
            clean = 0;
            asked = 0;
            nextItem = 0;
            turn = 0;
            mended = false;
        }

        private void poll() {
            for (int n = 0; n < ranks.nodes; n++) {
                if ((clean >> n & 1) == 0) {
                    net.post(LIST, me, n, epoch, set);
                }
            }
        }

        void work() {
            asked = 0;
            turn = (turn + 1) % ranks.nodes;
            if (work.step != STORE && work.step != COMMIT) {
                poll();
            }
            push();
            if (!work.isActive() && table.isKnown() && !mended) {
                mend();
            }
        }

        void hear(Message m) {
            if (m.kind == ASK) {
                work.take(m);
                return;
            }
            heard |= 1 << m.from;
            switch (m.kind) {
                case LISTED: listed(m); break;
                case ITEM: gotItem(m); break;
                case HAVE: gotHave(m); break;
                case LACK: gotLack(m); break;
                default: break;
            }
        }

        /** One step may open the next: the last one that stands is begun at once, the rest comes with MESSAGES. */
        void goOn() {
            int was = work.step;
            if (work.step == WAIT && table.isKnown() && isReady(0)) {
                work.plan();
            }
            if (work.step == FETCH && work.lacks == 0) {
                work.change();
                work.sealItems();
            }
            if (work.step == STORE && areSafe(0, Work.ROOT_BLOCK)) {
                work.sealRoot();
            }
            if (work.step == COMMIT && areSafe(Work.ROOT_BLOCK, Work.BLOCKS)) {
                clean = 0;
                mended = false;
                work.step = TELL;
            }
            if (work.step == TELL) {
                tell();
            }
            if (work.step != was) {
                push();
            }
        }

        /** A GROUP works only with R NODES that are IN and, as far as can be known, UP. */
        private boolean isReady(int g) {
            return masks[g] != 0 && (heard & masks[g]) == masks[g];
        }

        private boolean isSafe(int at) {
            int mask = masks[table.groupOf(at)];
            return table.version[at] >= 0 && mask != 0 && (table.holders[at] & mask) == mask;
        }

        private boolean areSafe(int from, int to) {
            for (int i = from; i < to; i++) {
                if (Disk.isSealed(work.blocks, i * BLOCK_WORDS)) {
                    int at = table.find(work.blocks[i * BLOCK_WORDS + 1]);
                    if (at < 0 || !isSafe(at)) {
                        return false;
                    }
                }
            }
            return true;
        }

        private void tell() {
            Message m = net.post(TOLD, me, ranks.nodes, epoch, set);
            m.tag = work.op;
            m.value = work.answer;
            m.count = work.toldLength();
            System.arraycopy(work.asked.words, TAPE_AT, m.body, 0, (m.count + 3) / 4);
            work.step = IDLE;
        }

        private void push() {
            if (work.step == FETCH) {
                for (int i = 0; i < Work.RECORD_BLOCK; i++) {
                    fetchStripe(work.neededAt(i));
                }
            } else if (work.step == STORE) {
                for (int i = 0; i < Work.ROOT_BLOCK; i++) {
                    putBlock(i);
                }
            } else if (work.step == COMMIT) {
                putBlock(Work.ROOT_BLOCK);
            }
        }

        private void fetchStripe(int at) {
            if (at >= 0 && table.holders[at] != 0 && isReady(table.groupOf(at))) {
                net.post(GET, me, oneOf(table.holders[at]), epoch, set).tag = table.tagAt(at);
            }
        }

        /** Another one at each TICK: the one that was asked before may be DOWN. */
        private int oneOf(int holders) {
            int n = turn;
            for (int i = 0; i < ranks.nodes && (holders >> n & 1) == 0; i++) {
                n = (n + 1) % ranks.nodes;
            }
            return n;
        }

        private void putBlock(int i) {
            int from = i * BLOCK_WORDS;
            int at = Disk.isSealed(work.blocks, from) ? table.find(work.blocks[from + 1]) : NOTHING;
            int missing = at < 0 ? 0 : masks[table.groupOf(at)] & ~table.holders[at];
            for (int n = 0; n < ranks.nodes; n++) {
                if ((missing >> n & 1) != 0) {
                    Message m = net.post(PUT, me, n, epoch, set);
                    m.tag = work.blocks[from + 1];
                    System.arraycopy(work.blocks, from, m.body, 0, BLOCK_WORDS);
                }
            }
        }

        private void mend() {
            int orders = 0;
            mended = true;
            for (int i = 0; i < ITEMS && orders < ORDERS; i++) {
                int at = nextItem;
                nextItem = (nextItem + 1) % ITEMS;
                if (table.version[at] >= 0 && !isSafe(at)) {
                    mended = false;
                    orders += sendTo(masks[table.groupOf(at)] & ~table.holders[at] & heard, at);
                }
            }
        }

        private int sendTo(int missing, int at) {
            if (table.holders[at] == 0) {
                return 0;
            }
            for (int n = 0; n < ranks.nodes; n++) {
                if ((missing >> n & 1) != 0) {
                    Message m = net.post(SEND, me, oneOf(table.holders[at]), epoch, set);
                    m.tag = table.tagAt(at);
                    m.value = n;
                }
            }
            return Integer.bitCount(missing);
        }

        /** While an OPERATION is under way the table is ahead of what stands on DISKS: nothing is dropped by it. */
        private void listed(Message m) {
            boolean sure = !work.isActive() && table.isKnown();
            boolean mayDrop = sure && isSafe(ROOT);
            int kept = 0;
            int dropped = 0;
            for (int i = 0; i < m.count; i++) {
                int what = judge(m.body[i], m.from);
                if (what == KEEP) {
                    kept++;
                } else if (what == SPARE && mayDrop) {
                    spare[dropped] = m.body[i];
                    dropped++;
                }
                if (what == UNSURE || !sure) {
                    fetchIfNews(m.body[i], m.from);
                }
            }
            if (dropped > 0) {
                Message drop = net.post(DROP, me, m.from, epoch, set);
                drop.count = dropped;
                System.arraycopy(spare, 0, drop.body, 0, dropped);
            }
            boolean flushed = m.value == 0;
            setClean(m.from, sure && flushed && kept == m.count);
        }

        private void setClean(int n, boolean is) {
            clean = is ? clean | 1 << n : clean & ~(1 << n);
        }

        /**
         * What is not in the table and no newer than its ROOT was left behind by an OPERATION up to that one. A COPY
         * that is wanted, but not there, may go when all that are wanted there were seen under this MAP.
         */
        private int judge(int tag, int n) {
            int at = table.find(tag);
            if (at < 0) {
                return table.isKnown() && Table.versionOf(tag) <= table.version[ROOT] ? SPARE : UNSURE;
            }
            table.holders[at] |= 1 << n;
            int mask = masks[table.groupOf(at)];
            if ((mask >> n & 1) != 0) {
                return KEEP;
            }
            return mask != 0 && (table.holders[at] & mask) == mask ? SPARE : UNSURE;
        }

        private void fetchIfNews(int tag, int n) {
            boolean news = Table.isRoot(tag) && Table.versionOf(tag) > table.version[ROOT];
            int at = table.find(tag);
            if (at >= 0 && at != ROOT && at % PARTS == RECORD && !table.knows(at / PARTS)
                    && (asked >> at / PARTS & 1) == 0) {
                asked |= 1L << at / PARTS;
                news = true;
            }
            if (news) {
                net.post(GET, me, n, epoch, set).tag = tag;
            }
        }

        /** A newer ROOT than that of the work at hand: the work begins again from there. */
        private void gotItem(Message m) {
            if (Table.isRoot(m.tag)) {
                if (Table.versionOf(m.tag) > table.version[ROOT]) {
                    table.readRoot(m.body, 0);
                    table.holders[ROOT] = 1 << m.from;
                    work.step = work.isActive() ? WAIT : work.step;
                    clean = 0;
                    asked = 0;
                    mended = false;
                    poll();
                }
                return;
            }
            int at = table.find(m.tag);
            if (at >= 0 && at % PARTS == RECORD) {
                boolean was = table.isKnown();
                table.readRecord(m.body, 0);
                if (!was && table.isKnown()) {
                    poll();
                }
            } else if (at >= 0) {
                work.fill(at, m.body);
            }
        }

        private void gotHave(Message m) {
            for (int i = 0; i < m.count; i++) {
                int at = table.find(m.body[i]);
                if (at >= 0) {
                    table.holders[at] |= 1 << m.from;
                } else {
                    setClean(m.from, false);
                }
            }
        }

        private void gotLack(Message m) {
            int at = table.find(m.tag);
            if (at >= 0) {
                table.holders[at] &= ~(1 << m.from);
                setClean(m.from, false);
                mended = false;
            }
        }

        boolean isClean() {
            if (work.isActive() || !table.isKnown() || clean != (1 << ranks.nodes) - 1) {
                return false;
            }
            for (int at = 0; at < ITEMS; at++) {
                if (table.version[at] >= 0 && !isSafe(at)) {
                    return false;
                }
            }
            return true;
        }
    }

    /** An OPERATION as it was begun; what a READ or NEXT told comes to where the TAPE of others is. */
    private static final class Asked {
        int kind, a, b, length0, length1, length;
        int toldLength;
        final int[] words = new int[ASK_WORDS];

        void writeTo(Message m) {
            m.count = length;
            m.body[0] = kind;
            m.body[1] = a;
            m.body[2] = b;
            m.body[3] = length0;
            m.body[4] = length1;
            System.arraycopy(words, 0, m.body, 5, TAPE_AT + (length + 3) / 4);
        }

        void readFrom(Message m) {
            length = m.count;
            kind = m.body[0];
            a = m.body[1];
            b = m.body[2];
            length0 = m.body[3];
            length1 = m.body[4];
            System.arraycopy(m.body, 5, words, 0, TAPE_AT + (length + 3) / 4);
        }

        boolean changes() {
            return kind != READ && kind != SIZE && kind != NEXT;
        }
    }

    /** Those who begin OPERATIONS, and draw THE MAP. They are no NODE, and never fail. */
    private static final class Askers {
        private final Ranks ranks;
        private final Net net;
        private final int[] tape = new int[TAPE_WORDS];
        int length;
        private final int[] names = new int[2 * NAME_WORDS];
        private final int[] nameLength = new int[2];
        /** Those without an ANSWER, and those that got it by the latest call of settle. */
        final Asked[] asked = new Asked[2 * MAX_OPEN];
        final int[] answers = new int[OPERATIONS];
        int begun, heard, settled, since;
        /** The latest OPERATION heard of that changed something. */
        private int effect = NOTHING;
        int epoch = 1, set;
        int mapHeard;

        Askers(Ranks ranks, Net net) {
            this.ranks = ranks;
            this.net = net;
            set = (1 << ranks.nodes) - 1;
            mapHeard = set;
            for (int i = 0; i < asked.length; i++) {
                asked[i] = new Asked();
            }
        }

        void addWord(int word) {
            for (int shift = 24; shift >= 0; shift -= 8) {
                Bytes.set(tape, length, word >>> shift);
                length++;
            }
        }

        int takeName(int k) {
            Arrays.fill(names, k * NAME_WORDS, (k + 1) * NAME_WORDS, 0);
            Bytes.move(tape, 0, names, k * MAX_NAME, length);
            nameLength[k] = length;
            length = 0;
            return nameLength[k];
        }

        boolean mayAsk(int kind, int a, int b) {
            if (kind < MAKE || kind > NEXT || kind != NEXT && nameLength[0] == 0) {
                return false;
            }
            if ((kind == RENAME || kind == SWAP) && nameLength[1] == 0) {
                return false;
            }
            if ((kind == WRITE || kind == CUT || kind == READ) && (a < 0 || a > MAX_SIZE)) {
                return false;
            }
            return kind != READ || b >= 0 && b <= MAX_TAPE;
        }

        int open(int kind, int a, int b) {
            Asked o = asked[begun % asked.length];
            o.kind = kind;
            o.a = a;
            o.b = b;
            o.length0 = nameLength[0];
            o.length1 = nameLength[1];
            o.length = 0;
            o.toldLength = 0;
            System.arraycopy(names, 0, o.words, 0, TAPE_AT);
            if (kind == WRITE || kind == APPEND) {
                System.arraycopy(tape, 0, o.words, TAPE_AT, TAPE_WORDS);
                o.length = length;
                length = 0;
            }
            begun++;
            if (heard == begun - 1) {
                askNext();
            }
            return begun - 1;
        }

        /** One takes effect behind the other: to ask for a second one before the first was heard of is of no use. */
        private void askNext() {
            int first = ranks.nodeOf(0, 0, set);
            if (heard == begun || first < 0) {
                return;
            }
            Asked o = asked[heard % asked.length];
            Message m = net.post(ASK, ranks.nodes, first, epoch, set);
            m.tag = heard;
            m.value = effect;
            o.writeTo(m);
        }

        void drawMap(int newSet) {
            epoch++;
            set = newSet;
            mapHeard = 0;
            tellMap();
        }

        private void tellMap() {
            for (int n = 0; n < ranks.nodes; n++) {
                if ((mapHeard >> n & 1) == 0) {
                    net.post(MAP, ranks.nodes, n, epoch, set);
                }
            }
        }

        void work() {
            tellMap();
            askNext();
        }

        void hear(Message m) {
            if (m.kind == HEARD && m.epoch == epoch) {
                mapHeard |= 1 << m.from;
            } else if (m.kind == TOLD && m.tag == heard && heard < begun) {
                Asked o = asked[heard % asked.length];
                o.toldLength = m.count;
                System.arraycopy(m.body, 0, o.words, TAPE_AT, (m.count + 3) / 4);
                answers[heard] = m.value;
                if (o.changes() && m.value >= 0) {
                    effect = heard;
                }
                heard++;
                askNext();
            }
        }

        void publish() {
            since = settled;
            settled = begun;
        }
    }
}
