import java.util.List;

/** Short ways for tests to feed, put, get and remove on a HashPages. */
final class Maps {
    private Maps() {
    }

    static HashPages formatted(int pages, int log) {
        HashPages map = new HashPages();
        map.format(pages, log);
        return map;
    }

    static void feed(HashPages map, List<Integer> bytes) {
        for (int b : bytes) {
            map.feed(1, b, 0);
        }
    }

    static void fill(HashPages map, int count, int value) {
        for (int i = 0; i < count; i++) {
            map.feed(1, value, 0);
        }
    }

    static int put(HashPages map, List<Integer> key, int valueSize, int value) {
        feed(map, key);
        fill(map, valueSize, value);
        return map.put(key.size());
    }

    static int remove(HashPages map, List<Integer> key) {
        feed(map, key);
        return map.remove();
    }

    static int get(HashPages map, List<Integer> key) {
        feed(map, key);
        return map.get();
    }

    /** A whole page, or a part of it, against the bytes that are due; what is not told is due to be 0. */
    static void page(String what, HashPages map, int page, int... due) {
        for (int i = 0; i < 256; i++) {
            Check.same(what + ": page " + page + ", byte " + i, map.byteOf(page, i), i < due.length ? due[i] : 0);
        }
    }

    /** All bytes of a disk, to see later that nothing has changed. */
    static int[] bytes(HashPages map) {
        int[] bytes = new int[map.look(0) * 256];
        for (int i = 0; i < bytes.length; i++) {
            bytes[i] = map.byteOf(i / 256, i % 256);
        }
        return bytes;
    }
}
