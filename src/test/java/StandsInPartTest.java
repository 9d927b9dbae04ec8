import java.lang.reflect.Constructor;
import java.lang.reflect.Method;
import java.util.Arrays;
import java.util.Random;

/**
 * "One may stand in part (its first bytes new, the others old)": whatever those bytes are, whatever stood in the block
 * before, and however many of its first bytes stand. First a disk alone, against a plain model; then whole stores.
 */
public final class StandsInPartTest {
    private static final Check CHECK = new Check("StandsInPartTest");
    private static final int WORDS = 128, LAST = 127, BLOCK = 512;
    /** Few values, so that what is new and what is old are often the same by chance. */
    private static final int[] LIKELY = {0, 0, 0, 1, 2, 1 << 24, 2 << 24, 0x01010101, 0x02020202, -1};

    private Object disk;
    private Method write, erase, flush, fail, isWhole;
    private int[] flushed;

    public static void main(String[] args) throws ReflectiveOperationException {
        StandsInPartTest alone = new StandsInPartTest();
        alone.open();
        alone.everyPartOverEveryOld();
        for (int seed = 0; seed < 400; seed++) {
            alone.open();
            alone.manyCrashes(new Random(seed));
        }
        alone.noMoreThan32();
        everyPartOfEveryBlock();
        bytesThatWereNeverWritten();
        CHECK.end();
    }

    private void open() throws ReflectiveOperationException {
        Class<?> kind = Class.forName("StripedStore$Disk");
        Constructor<?> make = kind.getDeclaredConstructor();
        make.setAccessible(true);
        disk = make.newInstance();
        write = method(kind, "write", int.class, int[].class);
        erase = method(kind, "erase", int.class);
        flush = method(kind, "flush");
        fail = method(kind, "fail", int.class, int.class);
        isWhole = method(kind, "isWhole", int.class);
        flushed = (int[]) Inside.get(disk, "flushed");
    }

    private static Method method(Class<?> kind, String name, Class<?>... of) throws ReflectiveOperationException {
        Method m = kind.getDeclaredMethod(name, of);
        m.setAccessible(true);
        return m;
    }

    private boolean whole(int slot) throws ReflectiveOperationException {
        return (Boolean) isWhole.invoke(disk, slot);
    }

    private boolean isThere(int slot, int[] block) {
        return Arrays.equals(Arrays.copyOfRange(flushed, slot * WORDS + 1, slot * WORDS + LAST),
            Arrays.copyOfRange(block, 1, LAST));
    }

    private static int[] block(Random random) {
        int[] words = new int[WORDS];
        for (int w = 0; w < WORDS; w++) {
            words[w] = random.nextInt(4) == 0 ? random.nextInt() : LIKELY[random.nextInt(LIKELY.length)];
        }
        return words;
    }

    /** What stood before: nothing, a block, one that was erased, and one that stands in part itself. */
    private void everyPartOverEveryOld() throws ReflectiveOperationException {
        Random random = new Random(5);
        for (int part = 0; part <= BLOCK; part++) {
            for (int old = 0; old < 4; old++) {
                open();
                int[] before = block(random);
                int[] after = old == 3 && part % 2 == 0 ? before : block(random);
                if (old > 0) {
                    write.invoke(disk, 7, before);
                    flush.invoke(disk);
                }
                if (old == 2) {
                    erase.invoke(disk, 7);
                    flush.invoke(disk);
                } else if (old == 3) {
                    write.invoke(disk, 7, block(random));
                    fail.invoke(disk, 0, 1 + random.nextInt(BLOCK - 1));
                }
                boolean was = whole(7);
                write.invoke(disk, 7, after);
                fail.invoke(disk, 0, part);
                String what = part + " bytes over what was " + old;
                CHECK.due("whole with " + what, whole(7), part == BLOCK || part == 0 && was);
                if (part == BLOCK) {
                    CHECK.due("the new one with " + what, isThere(7, after), true);
                } else if (part == 0 && was) {
                    CHECK.due("the old one with " + what, isThere(7, before), true);
                }
            }
        }
    }

    private int[] change(int slot, Random random) throws ReflectiveOperationException {
        if (random.nextInt(3) == 0) {
            erase.invoke(disk, slot);
            return null;
        }
        int[] block = block(random);
        write.invoke(disk, slot, block);
        return block;
    }

    /** Four blocks, written, erased, flushed and crashed over and over; null is what does not stand whole. */
    private void manyCrashes(Random random) throws ReflectiveOperationException {
        int[][] stands = new int[4][];
        for (int round = 0; round < 30; round++) {
            int[][] news = new int[4][];
            int[] order = {0, 1, 2, 3};
            for (int i = 3; i > 0; i--) {
                int j = random.nextInt(i + 1);
                int k = order[i];
                order[i] = order[j];
                order[j] = k;
            }
            int count = random.nextInt(5);
            for (int i = 0; i < count; i++) {
                news[order[i]] = change(order[i], random);
            }
            for (int i = 0; i < count; i++) {
                if (random.nextInt(5) == 0) {
                    erase.invoke(disk, order[i]);
                    news[order[i]] = null;
                }
            }
            int mask = random.nextInt();
            int[] parts = {0, 1, 2, 3, 4, 5, 508, 509, 510, 511, 512, 1 + random.nextInt(511)};
            int part = parts[random.nextInt(parts.length)];
            boolean crash = random.nextInt(4) > 0;
            if (crash) {
                fail.invoke(disk, mask, part);
            } else {
                flush.invoke(disk);
            }
            boolean torn = false;
            for (int i = 0; i < count; i++) {
                if (!crash || (mask >>> i & 1) != 0) {
                    stands[order[i]] = news[order[i]];
                } else if (!torn) {
                    torn = true;
                    stands[order[i]] = part == 0 ? stands[order[i]] : part == BLOCK ? news[order[i]] : null;
                }
            }
            for (int slot = 0; slot < 4; slot++) {
                CHECK.due("whole", whole(slot), stands[slot] != null);
                CHECK.due("as written", stands[slot] == null || isThere(slot, stands[slot]), true);
            }
        }
    }

    /** A node flushes before the 33rd; the disk alone does not take it, and keeps the others. */
    private void noMoreThan32() throws ReflectiveOperationException {
        open();
        Random random = new Random(1);
        for (int slot = 0; slot < 40; slot++) {
            write.invoke(disk, slot, block(random));
            CHECK.due("not flushed", Inside.number(disk, "count"), Math.min(32, slot + 1));
        }
        flush.invoke(disk);
        for (int slot = 0; slot < 40; slot++) {
            CHECK.due("whole", whole(slot), slot < 32);
        }
    }

    /** One block of the three nodes stands in part, whichever it is, and of the others any stand. */
    private static void everyPartOfEveryBlock() {
        int[] words = {0, 1, 256, 0x01000000, 73242496, -1};
        for (int part = -1; part <= BLOCK + 1; part++) {
            int word = words[(part + 1) % words.length];
            StripedStore x = new StripedStore(3, 3, 1);
            x.settle();
            x.feed(word, 0, 0, 0, word);
            x.end(1 + (part + 1) % 20);
            x.name(0);
            x.feed(1, word, 0, 0, 0);
            x.begin(Hand.WRITE, part % 3 * 440 + 440, 0);
            for (int i = 0; i < 2 + part % 9; i++) {
                x.deliver(i);
                if (Inside.underWay(x) == 0) {
                    x.tick(1);
                }
            }
            for (int n = 0; n < 3; n++) {
                x.crash(n, part % 4, part);
            }
            CHECK.due("settle", x.settle(), 1);
            CHECK.due("answer", x.answer(0), 20);
            CHECK.due("audit with " + part + " bytes", x.audit(), 0);
            int read = x.begin(Hand.READ, part % 3 * 440 + 440, 20);
            x.settle();
            for (int i = 0; i < 20; i++) {
                int due = i == 3 ? 1 : i < 4 || i > 7 ? 0 : word >>> 56 - 8 * i & 255;
                CHECK.due("byte " + i + " with " + part + " bytes", x.told(read, i), due);
            }
        }
    }

    /** A sum over the block, and not the block's own form, let these pass: zeros stood there, and zeros came. */
    private static void bytesThatWereNeverWritten() {
        for (int part = 0; part <= BLOCK; part++) {
            StripedStore x = new StripedStore(3, 3, 1);
            x.settle();
            Hand.write(x, "\1", 0, Hand.times("\1\2\0\0", 112));
            Hand.busy(x, 40);
            Hand.op(x, Hand.REMOVE, "\1");
            Hand.busy(x, 40);
            Hand.write(x, "\2", 0, Hand.times("\0\0\2\1", 112));
            for (int i = 0; i < 12 && Inside.notFlushed(x, 1) == 0; i++) {
                x.deliver(0);
            }
            x.crash(1, 0, part);
            x.settle();
            CHECK.due("answer", x.answer(2), 448);
            CHECK.due("audit with " + part + " bytes", x.audit(), 0);
            for (int i = 444; i < 448; i++) {
                CHECK.due("byte", x.onDisk(0, 0, 1, i), i < 446 ? 0 : 448 - i);
            }
        }
    }
}
