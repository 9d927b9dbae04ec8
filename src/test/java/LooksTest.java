/** Promises 18 to 23: file, where, onDisk, holds, audit, count. */
public final class LooksTest {
    private static final Check CHECK = new Check("LooksTest");
    /** Where the bytes of a stripe begin in its block, and the block's last word. */
    private static final int BEGIN = 15, LAST = 127;
    private static final int[] ODD = {-1, Integer.MIN_VALUE, Integer.MAX_VALUE, 1000000};

    public static void main(String[] args) {
        files();
        wheres();
        onDisks();
        readsTheDisk();
        holdsWhatStands();
        auditSees();
        busy();
        counts();
        CHECK.end();
    }

    private static StripedStore store() {
        StripedStore x = new StripedStore(6, 3, 16);
        Hand.write(x, "middle", 448 * 2 + 1, "mm");
        Hand.write(x, "z", 0, Hand.times("0123456789", 90));
        Hand.op(x, Hand.MAKE, "a very long name");
        x.settle();
        return x;
    }

    private static void files() {
        StripedStore x = store();
        int[][] due = {{0, 2, 16, 0}, {899, 0, 6, 1}, {900, 1, 1, 3}};
        for (int k = 0; k < 3; k++) {
            for (int what = 0; what < 4; what++) {
                CHECK.due("file " + k + " " + what, x.file(k, what), due[k][what]);
            }
        }
        CHECK.due("file 3", x.file(3, 0), StripedStore.NONE);
        for (int odd : ODD) {
            CHECK.due("file " + odd, x.file(odd, 0), StripedStore.NONE);
            CHECK.due("what " + odd, x.file(0, odd), StripedStore.REFUSED);
        }
        CHECK.due("what 4", x.file(9, 4), StripedStore.REFUSED);
    }

    private static int draw(int g, int n) {
        return PlainStore.draw(g, n);
    }

    private static void wheres() {
        StripedStore x = store();
        for (int s = 0; s < 3; s++) {
            int g = (31 + s * 7) % 16;
            for (int r = 1; r < 3; r++) {
                int greater = x.where(2, s, r - 1);
                int less = x.where(2, s, r);
                CHECK.due("a greater draw first", draw(g, greater) > draw(g, less), true);
            }
            int least = draw(g, x.where(2, s, 2));
            int others = 0;
            for (int n = 0; n < 6; n++) {
                others += draw(g, n) < least ? 1 : 0;
            }
            CHECK.due("all others are less", others, 3);
        }
        CHECK.due("not laid", x.where(1, 0, 0), StripedStore.NONE);
        CHECK.due("not laid", x.where(1, 1, 0), StripedStore.NONE);
        CHECK.due("laid", x.where(1, 2, 0) >= 0, true);
        CHECK.due("no such copy", x.where(1, 2, 3), StripedStore.NONE);
        CHECK.due("no such stripe", x.where(1, 19, 0), StripedStore.NONE);
        CHECK.due("no such file", x.where(3, 0, 0), StripedStore.NONE);
        for (int odd : ODD) {
            CHECK.due("file " + odd, x.where(odd, 0, 0), StripedStore.NONE);
            CHECK.due("stripe " + odd, x.where(1, odd, 0), StripedStore.NONE);
            CHECK.due("copy " + odd, x.where(1, 2, odd), StripedStore.NONE);
        }
    }

    private static void onDisks() {
        StripedStore x = store();
        for (int i = 0; i < 900; i++) {
            CHECK.due("byte " + i, x.onDisk(2, i / 448, i % 3, i % 448), '0' + i % 10);
        }
        CHECK.due("behind the end", x.onDisk(2, 2, 0, 4), StripedStore.NONE);
        CHECK.due("behind the stripe", x.onDisk(2, 0, 0, 448), StripedStore.NONE);
        CHECK.due("not written", x.onDisk(1, 2, 0, 0), 0);
        CHECK.due("written", x.onDisk(1, 2, 0, 1), 'm');
        CHECK.due("not laid", x.onDisk(1, 1, 0, 0), StripedStore.NONE);
        for (int odd : ODD) {
            CHECK.due("file " + odd, x.onDisk(odd, 0, 0, 0), StripedStore.NONE);
            CHECK.due("stripe " + odd, x.onDisk(2, odd, 0, 0), StripedStore.NONE);
            CHECK.due("copy " + odd, x.onDisk(2, 0, odd, 0), StripedStore.NONE);
            CHECK.due("byte " + odd, x.onDisk(2, 0, 0, odd), StripedStore.NONE);
        }
    }

    /** Turns a word of the blocks of a disk whose bytes begin with a word, and says of how many blocks that was. */
    private static int spoil(StripedStore x, int n, int begin, int word) {
        int[] words = Inside.disk(x, n);
        int found = 0;
        for (int at = 0; at < words.length; at += 128) {
            if (words[at] != 0 && words[at + BEGIN] == begin) {
                words[at + word] = ~words[at + word];
                found++;
            }
        }
        return found;
    }

    private static void readsTheDisk() {
        StripedStore x = store();
        int n = x.where(2, 0, 1);
        CHECK.due("a block", spoil(x, n, 0x30313233, BEGIN), 1);
        CHECK.due("what stands on the disk", x.onDisk(2, 0, 1, 0), 255 - '0');
        CHECK.due("another copy", x.onDisk(2, 0, 0, 0), '0');
        CHECK.due("a block", spoil(x, n, ~0x30313233, LAST), 1);
        CHECK.due("what does not stand whole is none", x.onDisk(2, 0, 1, 0), StripedStore.NONE);
        CHECK.due("another copy", x.onDisk(2, 0, 0, 0), '0');
    }

    private static void holdsWhatStands() {
        StripedStore x = store();
        int[] due = new int[6];
        int[][] laid = {{1, 2}, {2, 0}, {2, 1}, {2, 2}};
        for (int[] stripe : laid) {
            for (int r = 0; r < 3; r++) {
                due[x.where(stripe[0], stripe[1], r)]++;
            }
        }
        for (int n = 0; n < 6; n++) {
            CHECK.due("holds " + n, x.holds(n), due[n]);
        }
        int spoiled = x.where(2, 0, 1);
        spoil(x, spoiled, 0x30313233, LAST);
        CHECK.due("one less", x.holds(spoiled), due[spoiled] - 1);
        CHECK.due("holds 6", x.holds(6), StripedStore.REFUSED);
        for (int odd : ODD) {
            CHECK.due("holds " + odd, x.holds(odd), StripedStore.REFUSED);
        }
        StripedStore y = store();
        Hand.op(y, Hand.REMOVE, "z");
        Hand.op(y, Hand.REMOVE, "middle");
        y.settle();
        for (int n = 0; n < 6; n++) {
            CHECK.due("holds " + n, y.holds(n), 0);
        }
    }

    private static void auditSees() {
        StripedStore x = store();
        CHECK.due("audit", x.audit(), 0);
        int n = x.where(2, 0, 1);
        spoil(x, n, 0x30313233, LAST);
        CHECK.due("one is missing", x.audit(), 1);
        spoil(x, n, 0x30313233, LAST);
        CHECK.due("audit", x.audit(), 0);
        for (int word = BEGIN; word < LAST; word++) {
            spoil(x, n, 0x30313233, word);
            CHECK.due("one is unlike", x.audit(), 1);
            spoil(x, n, word == BEGIN ? ~0x30313233 : 0x30313233, word);
        }
        CHECK.due("audit", x.audit(), 0);
        int m = x.where(2, 0, 2);
        int other = 0;
        while (other == x.where(2, 0, 0) || other == n || other == m) {
            other++;
        }
        copyBlock(Inside.disk(x, m), Inside.disk(x, other));
        CHECK.due("one stands where it does not belong", x.audit(), 1);
    }

    private static void copyBlock(int[] from, int[] to) {
        int free = 0;
        while (to[free] != 0) {
            free += 128;
        }
        for (int at = 0; at < from.length; at += 128) {
            if (from[at] != 0 && from[at + BEGIN] == 0x30313233) {
                System.arraycopy(from, at, to, free, 128);
            }
        }
    }

    private static void busy() {
        StripedStore x = new StripedStore(3, 2, 1);
        for (int round = 0; round < 2; round++) {
            CHECK.due("file", x.file(0, 0), StripedStore.BUSY);
            CHECK.due("file", x.file(-1, 3), StripedStore.BUSY);
            CHECK.due("file refused first", x.file(0, 4), StripedStore.REFUSED);
            CHECK.due("where", x.where(-1, -1, -1), StripedStore.BUSY);
            CHECK.due("onDisk", x.onDisk(0, 0, 0, -1), StripedStore.BUSY);
            CHECK.due("holds", x.holds(2), StripedStore.BUSY);
            CHECK.due("holds refused first", x.holds(3), StripedStore.REFUSED);
            CHECK.due("audit", x.audit(), StripedStore.BUSY);
            x.settle();
            CHECK.due("file", x.file(0, 0), StripedStore.NONE);
            CHECK.due("audit", x.audit(), 0);
            x.tick(1);
        }
    }

    private static void counts() {
        StripedStore x = store();
        int[] due = {3, 1799, 4, 3, 0, 2, 6, 63, 0, 0, 1};
        for (int what = 0; what < due.length; what++) {
            CHECK.due("count " + what, x.count(what), due[what]);
        }
        Hand.op(x, Hand.REMOVE, "z");
        x.crash(0, 0, 0);
        x.crash(1, 0, 0);
        x.replace(1);
        x.map(7);
        x.feed(1, 2, 3, 4, 5);
        Hand.busy(x, 3);
        int[] then = {3, 1799, 4, 4, 1, 4, 4, 7, 1, 20, 0};
        for (int what = 0; what < then.length; what++) {
            CHECK.due("count " + what, x.count(what), then[what]);
        }
        x.settle();
        int[] last = {2, 899, 1, 4, 0, 5, 6, 63, 0, 20, 1};
        for (int what = 0; what < last.length; what++) {
            CHECK.due("count " + what, x.count(what), last[what]);
        }
        CHECK.due("count 11", x.count(11), StripedStore.REFUSED);
        for (int odd : ODD) {
            CHECK.due("count " + odd, x.count(odd), StripedStore.REFUSED);
        }
    }
}
