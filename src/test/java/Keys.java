import java.util.ArrayList;
import java.util.List;

/** Keys picked by their hashes, so that tests can fill one bucket, or go deep into the directory. */
final class Keys {
    private static final int TRIES = 1 << 22;

    private Keys() {
    }

    static List<Integer> of(int... bytes) {
        List<Integer> key = new ArrayList<>();
        for (int b : bytes) {
            key.add(b);
        }
        return key;
    }

    private static List<List<Integer>> search(int from, int to, int prefix, int bits, int count) {
        List<List<Integer>> found = new ArrayList<>();
        for (int n = from; n < to && found.size() < count; n++) {
            List<Integer> key = n < 65536 ? of(n & 255, n >> 8) : of(n & 255, (n >> 8) & 255, n >> 16);
            if (Model.hashOf(key) >> (16 - bits) == prefix) {
                found.add(key);
            }
        }
        if (found.size() < count) {
            throw new AssertionError("too few keys with this prefix");
        }
        return found;
    }

    /** The first count keys of two bytes (a record of 36, with a value of 32) whose hash begins with these bits. */
    static List<List<Integer>> twos(int prefix, int bits, int count) {
        return search(0, 65536, prefix, bits, count);
    }

    /** The first count keys of three bytes (a record of 37, with a value of 32) whose hash begins with these bits. */
    static List<List<Integer>> threes(int prefix, int bits, int count) {
        return search(65536, TRIES, prefix, bits, count);
    }

    /** The first count keys of two or three bytes whose hash begins with these bits. */
    static List<List<Integer>> withPrefix(int prefix, int bits, int count) {
        return search(0, TRIES, prefix, bits, count);
    }

    static List<List<Integer>> withHash(int hash, int count) {
        return withPrefix(hash, 16, count);
    }

    static List<List<Integer>> joined(List<List<Integer>> first, List<List<Integer>> second) {
        List<List<Integer>> all = new ArrayList<>(first);
        all.addAll(second);
        return all;
    }

    /** The bytes from .. to - 1 as feed() takes them, the lowest one first; 0 for those that are not there. */
    static long word(List<Integer> bytes, int from, int to) {
        long word = 0;
        for (int i = from; i < to && i < bytes.size(); i++) {
            word |= (long) bytes.get(i) << (8 * (i - from));
        }
        return word;
    }
}
