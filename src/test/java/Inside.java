import java.lang.reflect.Array;
import java.lang.reflect.Field;
import java.lang.reflect.Modifier;
import java.util.IdentityHashMap;
import java.util.Map;

/** Looks into a store, for what its answers never show: which messages are under way, what is on a disk. */
final class Inside {
    private Inside() {
    }

    static Object get(Object of, String field) {
        try {
            Field f = of.getClass().getDeclaredField(field);
            f.setAccessible(true);
            return f.get(of);
        } catch (ReflectiveOperationException e) {
            throw new IllegalStateException(e);
        }
    }

    static int number(Object of, String field) {
        return (Integer) get(of, field);
    }

    static int underWay(StripedStore x) {
        return number(get(x, "net"), "count");
    }

    /** What kind of message the k-th one under way is. */
    static int kindOf(StripedStore x, int k) {
        return number(message(x, k), "kind");
    }

    /** The node that it goes to. */
    static int goalOf(StripedStore x, int k) {
        return number(message(x, k), "to");
    }

    /** The item that it is about. */
    static int tagOf(StripedStore x, int k) {
        return number(message(x, k), "tag");
    }

    private static Object message(StripedStore x, int k) {
        return ((Object[]) get(get(x, "net"), "way"))[k];
    }

    /** How many operations those who began them have heard of, though settle has not told of them. */
    static int heard(StripedStore x) {
        return number(get(x, "askers"), "heard");
    }

    static Object node(StripedStore x, int n) {
        return ((Object[]) get(x, "nodes"))[n];
    }

    static int epochOf(StripedStore x, int n) {
        return number(node(x, n), "epoch");
    }

    static int notFlushed(StripedStore x, int n) {
        return number(get(node(x, n), "disk"), "count");
    }

    static int[] disk(StripedStore x, int n) {
        return (int[]) get(get(node(x, n), "disk"), "flushed");
    }

    /** Blocks of a disk on which something stands, whole or not. */
    static int blocks(StripedStore x, int n) {
        int[] words = disk(x, n);
        int used = 0;
        for (int at = 0; at < words.length; at += 128) {
            used += words[at] != 0 ? 1 : 0;
        }
        return used;
    }

    /** All that an object is, down to the last element, in short: two that are the same have the same text here. */
    static String state(Object of) {
        StringBuilder text = new StringBuilder();
        try {
            write(of, text, new IdentityHashMap<>());
        } catch (IllegalAccessException e) {
            throw new IllegalStateException(e);
        }
        return text.toString();
    }

    private static void write(Object of, StringBuilder text, Map<Object, Integer> seen) throws IllegalAccessException {
        if (of == null || of instanceof Number || of instanceof Boolean) {
            text.append(of).append(' ');
            return;
        }
        Integer before = seen.putIfAbsent(of, seen.size());
        if (before != null) {
            text.append('#').append(before).append(' ');
        } else if (of instanceof int[] words) {
            long hash = 0;
            for (int w : words) {
                hash = (hash ^ w) * 0x9E3779B97F4A7C15L;
                hash ^= hash >>> 29;
            }
            text.append(words.length).append(':').append(hash).append(' ');
        } else if (of.getClass().isArray()) {
            for (int i = 0; i < Array.getLength(of); i++) {
                write(Array.get(of, i), text, seen);
            }
        } else {
            for (Field f : of.getClass().getDeclaredFields()) {
                if (!Modifier.isStatic(f.getModifiers())) {
                    f.setAccessible(true);
                    write(f.get(of), text, seen);
                }
            }
        }
    }
}
