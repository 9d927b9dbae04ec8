import java.lang.reflect.Field;

/** Looks into a store, for what its answers never show: which messages are under way, what is on a disk. */
final class Inside {
    private Inside() {
    }

    static Object get(Object of, String field) {
        try {
            Field f = of.getClass().getDeclaredField(field);
            f.setAccessible(true);
            return f.get(of);
        } catch (ReflectiveOperationException e) {
            throw new IllegalStateException(e);
        }
    }

    static int number(Object of, String field) {
        return (Integer) get(of, field);
    }

    static int underWay(StripedStore x) {
        return number(get(x, "net"), "count");
    }

    /** How many operations those who began them have heard of, though settle has not told of them. */
    static int heard(StripedStore x) {
        return number(get(x, "askers"), "heard");
    }

    static Object node(StripedStore x, int n) {
        return ((Object[]) get(x, "nodes"))[n];
    }

    static int epochOf(StripedStore x, int n) {
        return number(node(x, n), "epoch");
    }

    static int notFlushed(StripedStore x, int n) {
        return number(get(node(x, n), "disk"), "count");
    }

    static int[] disk(StripedStore x, int n) {
        return (int[]) get(get(node(x, n), "disk"), "flushed");
    }

    /** Blocks of a disk on which something stands, whole or not. */
    static int blocks(StripedStore x, int n) {
        int[] words = disk(x, n);
        int used = 0;
        for (int at = 0; at < words.length; at += 128) {
            used += words[at] != 0 ? 1 : 0;
        }
        return used;
    }
}
