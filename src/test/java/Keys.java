import java.util.ArrayList;
import java.util.List;

/** Keys picked by their hashes, so that tests can fill one bucket, or go deep into the directory. */
final class Keys {
    private Keys() {
    }

    static List<Integer> of(int... bytes) {
        List<Integer> key = new ArrayList<>();
        for (int b : bytes) {
            key.add(b);
        }
        return key;
    }

    /** The first count keys of two or three bytes whose hash begins with the given bits. */
    static List<List<Integer>> withPrefix(int prefix, int bits, int count) {
        List<List<Integer>> found = new ArrayList<>();
        for (int n = 0; n < 1 << 21 && found.size() < count; n++) {
            List<Integer> key = n < 65536 ? of(n & 255, n >> 8) : of(n & 255, (n >> 8) & 255, n >> 16);
            if (Model.hashOf(key) >> (16 - bits) == prefix) {
                found.add(key);
            }
        }
        if (found.size() < count) {
            throw new AssertionError("too few keys with this prefix");
        }
        return found;
    }

    static List<List<Integer>> withHash(int hash, int count) {
        return withPrefix(hash, 16, count);
    }
}
