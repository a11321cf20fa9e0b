import java.util.List;

/** Promises 10 to 16, with answers reckoned by hand from the document. */
public final class ReadsTest {
    private static final int[] WILD = {Integer.MIN_VALUE, -2, -1, 256, 1000, Integer.MAX_VALUE};

    /** Page 6 is the directory, 7 the bucket with two records: (1 2: 9 9 9) and (3: nothing). */
    private static HashPages small() {
        HashPages map = Maps.formatted(20, 4);
        Maps.put(map, Keys.of(1, 2), 3, 9);
        Maps.put(map, Keys.of(3), 0, 0);
        return map;
    }

    /** The same with the power gone. */
    private static HashPages smallAndDown() {
        HashPages map = small();
        map.power(0);
        Check.same("put without power", Maps.put(map, Keys.of(4), 1, 1), HashPages.DOWN);
        return map;
    }

    private static void byteOf(HashPages map) {
        int[] bucket = {0, 2, 0, 10, 2, 3, 1, 2, 9, 9, 9, 1, 0, 3};
        Maps.page("the bucket", map, 7, bucket);
        Maps.page("the directory", map, 6, 7);
        Maps.page("the head", map, 0, 0, 6);
        Maps.page("the last page", map, 19);
        for (int wild : WILD) {
            Check.same("byteOf(7, " + wild + ")", map.byteOf(7, wild), -1);
            Check.same("byteOf(" + wild + ", 0)", map.byteOf(wild, 0), -1);
        }
        Check.same("byteOf(20, 0)", map.byteOf(20, 0), -1);
        Check.same("a byte above 127", byteAbove127(), 254);
    }

    private static int byteAbove127() {
        HashPages map = new HashPages();
        Maps.put(map, Keys.of(254), 0, 0);
        return map.byteOf(11, 6);
    }

    private static void kind(HashPages map) {
        int[] due = {1, 2, 3, 3, 3, 3, 4, 5, 0, 0, 0, 0, 0, 0, 0, 0, 0, 0, 0, 0, -1};
        for (int page = 0; page < due.length; page++) {
            Check.same("kind(" + page + ")", map.kind(page), due[page]);
        }
        for (int wild : WILD) {
            Check.same("kind(" + wild + ")", map.kind(wild), -1);
        }
    }

    private static void hash() {
        HashPages map = new HashPages();
        Check.same("hash of no bytes", map.hash(), -1);
        map.feed(1, 97, 0);
        Check.same("hash of a", map.hash(), 6329);
        map.feed(3, 6647407L, 0);
        Check.same("hash of aone", map.hash(), 41679);
        Check.same("the tape stays", map.look(9), 4);
        Maps.fill(map, 12, 255);
        Check.same("hash of 16 bytes", map.hash(),
            Model.hashOf(Keys.of(97, 'o', 'n', 'e', 255, 255, 255, 255, 255, 255, 255, 255, 255, 255, 255, 255)));
        map.feed(1, 1, 1);
        Check.same("hash of 17 bytes", map.hash(), -1);
    }

    private static void entry(HashPages map) {
        Check.same("entry(0)", map.entry(0), 7);
        Check.same("entry(1)", map.entry(1), -1);
        for (int wild : WILD) {
            Check.same("entry(" + wild + ")", map.entry(wild), -1);
        }
    }

    private static void bucket(HashPages map) {
        int[] due = {0, 2, 10, -1};
        for (int what = 0; what < due.length; what++) {
            Check.same("bucket(7, " + what + ")", map.bucket(7, what), due[what]);
        }
        for (int page : new int[] {0, 1, 2, 5, 6, 8, 19, 20}) {
            for (int what = 0; what < 3; what++) {
                Check.same("bucket(" + page + ", " + what + ")", map.bucket(page, what), -1);
            }
        }
        for (int wild : WILD) {
            Check.same("bucket(" + wild + ", 0)", map.bucket(wild, 0), -1);
            Check.same("bucket(7, " + wild + ")", map.bucket(7, wild), -1);
        }
    }

    private static void record(HashPages map) {
        int[][] due = {{0, 0, 0, 1}, {0, 0, 1, 2}, {0, 0, 2, -1}, {0, 1, 0, 9}, {0, 1, 2, 9}, {0, 1, 3, -1},
            {1, 0, 0, 3}, {1, 0, 1, -1}, {1, 1, 0, -1}, {2, 0, 0, -1}, {0, 2, 0, -1}, {0, -1, 0, -1}, {-1, 0, 0, -1},
            {0, 0, -1, -1}, {0, 1, -1, -1}};
        for (int[] call : due) {
            Check.same("record(7, " + call[0] + ", " + call[1] + ", " + call[2] + ")",
                map.record(7, call[0], call[1], call[2]), call[3]);
        }
        for (int wild : WILD) {
            Check.same("record of a wild page", map.record(wild, 0, 0, 0), -1);
            Check.same("a wild record", map.record(7, wild, 0, 0), -1);
            Check.same("a wild part", map.record(7, 0, wild, 0), -1);
            Check.same("a wild byte of the key", map.record(7, 0, 0, wild), -1);
            Check.same("a wild byte of the value", map.record(7, 0, 1, wild), -1);
        }
        for (int page : new int[] {0, 1, 2, 6, 8, 20}) {
            Check.same("record of page " + page, map.record(page, 0, 0, 0), -1);
        }
    }

    private static void look() {
        HashPages map = small();
        map.power(5);
        map.feed(7, 1, 1);
        int[] due = {20, 4, 0, 1, 12, 2, 2, 0, 5, 7, 0};
        for (int what = 0; what < due.length; what++) {
            Check.same("look(" + what + ")", map.look(what), due[what]);
        }
        Check.same("look(11)", map.look(11), -1);
        for (int wild : WILD) {
            Check.same("look(" + wild + ")", map.look(wild), -1);
        }
        HashPages down = smallAndDown();
        int[] dueDown = {20, 4, 0, 1, 12, 2, 2, 1, 0, 0, 0};
        for (int what = 0; what < dueDown.length; what++) {
            Check.same("look(" + what + ") while DOWN", down.look(what), dueDown[what]);
        }
    }

    /** Keys of 7 records in halves; a split that the power cuts at each write of its third part. */
    private static void whileHalfDone() {
        List<List<Integer>> zeros = Keys.withPrefix(0, 1, 4);
        List<List<Integer>> ones = Keys.withPrefix(1, 1, 4);
        for (int writes = 0; writes <= 3; writes++) {
            HashPages map = Maps.formatted(12, 3);
            for (List<Integer> key : zeros) {
                Maps.put(map, key, 32, 1);
            }
            for (List<Integer> key : ones.subList(0, 3)) {
                Maps.put(map, key, 32, 1);
            }
            map.power(6 + 4 + writes);
            Check.same("put", Maps.put(map, ones.get(3), 32, 1), HashPages.DOWN);
            String when = "with " + writes + " pages of the split in place: ";
            Check.same(when + "DEPTH", map.look(2), 1);
            Check.same(when + "entry 0", map.entry(0), 6);
            Check.same(when + "entry 1", map.entry(1), writes < 3 ? 6 : 7);
            Check.same(when + "kind of the new bucket", map.kind(7), writes < 3 ? 0 : 5);
            Check.same(when + "buckets", map.look(3), writes < 3 ? 1 : 2);
            Check.same(when + "free", map.look(4), writes < 3 ? 5 : 4);
            Check.same(when + "records", map.look(5), writes < 1 ? 7 : writes < 3 ? 4 : 7);
            Check.same(when + "images", map.look(10), 3);
            Check.same(when + "depth", map.bucket(6, 0), writes < 1 ? 0 : 1);
            Check.same(when + "the new bucket", map.bucket(7, 1), writes < 3 ? -1 : 3);
            Check.same(when + "a record of the new bucket", map.record(7, 0, 1, 0), writes < 3 ? -1 : 1);
            Check.same(when + "its bytes", map.byteOf(7, 1), writes < 2 ? 0 : 3);
        }
    }

    /** A halving whose directory is written and whose head is not: an entry tells page 0, which stays the head. */
    private static void entryOfNoBucket() {
        HashPages map = Maps.formatted(12, 2);
        List<List<Integer>> keys = Keys.withPrefix(0, 1, 7);
        for (List<Integer> key : keys) {
            Maps.put(map, key, 32, 1);
        }
        Check.same("a doubling without a split", Maps.put(map, Keys.withPrefix(1, 1, 1).get(0), 1, 1), HashPages.LOG);
        map.power(1 + 3 + 1);
        Check.same("the halving is cut", Maps.remove(map, keys.get(0)), HashPages.DOWN);
        Check.same("DEPTH", map.look(2), 1);
        Check.same("entry 0", map.entry(0), 5);
        Check.same("entry 1", map.entry(1), 0);
        Check.same("page 0 is the HEAD", map.kind(0), 1);
        Check.same("page 0 is no bucket", map.bucket(0, 0), -1);
        Check.same("one bucket", map.look(3), 1);
        Check.same("records", map.look(5), 6);
        Check.same("recover", map.recover(-1), HashPages.DONE);
        Check.same("DEPTH", map.look(2), 0);
        Check.same("entry 1", map.entry(1), -1);
    }

    public static void main(String[] args) {
        for (HashPages map : new HashPages[] {small(), smallAndDown()}) {
            byteOf(map);
            kind(map);
            entry(map);
            bucket(map);
            record(map);
        }
        hash();
        look();
        whileHalfDone();
        entryOfNoBucket();
        Check.end();
    }
}
