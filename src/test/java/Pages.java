import java.util.List;

/** Pages as the document lays them out, written by hand from it, for tests to compare with. */
final class Pages {
    private Pages() {
    }

    static int[] rec(List<Integer> key, int valueSize, int value) {
        int[] bytes = new int[2 + key.size() + valueSize];
        bytes[0] = key.size();
        bytes[1] = valueSize;
        for (int i = 0; i < key.size(); i++) {
            bytes[2 + i] = key.get(i);
        }
        for (int i = 0; i < valueSize; i++) {
            bytes[2 + key.size() + i] = value;
        }
        return bytes;
    }

    /** The record that Subject.putAll makes of a key. */
    static int[] rec(List<Integer> key) {
        return rec(key, 32, key.get(0));
    }

    static int[] bucket(int depth, int[]... records) {
        int[] bytes = new int[256];
        int at = 4;
        for (int[] record : records) {
            System.arraycopy(record, 0, bytes, at, record.length);
            at += record.length;
        }
        bytes[0] = depth;
        bytes[1] = records.length;
        bytes[2] = (at - 4) / 256;
        bytes[3] = (at - 4) % 256;
        return bytes;
    }

    static int[] bucketOf(int depth, List<List<Integer>> keys) {
        int[][] records = new int[keys.size()][];
        for (int r = 0; r < records.length; r++) {
            records[r] = rec(keys.get(r));
        }
        return bucket(depth, records);
    }
}
