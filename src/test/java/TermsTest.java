import java.util.List;

/** What part 1 and the sentences round the parts say, where no promise of its own has it. */
public final class TermsTest {
    /** These keys stand in FeedTest with their hashes, too. */
    private static final List<Integer> HASH_0 = Keys.of(214, 85);
    private static final List<Integer> HASH_8000 = Keys.of(68, 247);
    private static final List<Integer> HASH_FFFF = Keys.of(83, 53);

    private static void bucketOfAKey() {
        Check.sentence("part 1", "A key belongs to the BUCKET that the ENTRY of the first DEPTH bits of its HASH (the highest "
            + "ones; ENTRY 0 with DEPTH 0) tells.");
        List<Integer> hash7fff = Keys.threes(0x7FFF, 16, 1).get(0);
        List<List<Integer>> edges = List.of(HASH_0, hash7fff, HASH_8000, HASH_FFFF);
        Subject flat = Subject.formatted(20, 3);
        for (List<Integer> key : edges) {
            flat.put(key, 1, key.get(0));
            Check.same("get with DEPTH 0", flat.get(key), 1);
        }
        Check.same("all in ENTRY 0's BUCKET", flat.bucket(flat.entry(0), 1), 4);
        for (int depth : new int[] {1, 2, 8, 9, 10}) {
            Subject map = Subject.formatted(60, 5);
            map.putAll(Keys.twos(0, depth, 4));
            map.putAll(Keys.twos(1, depth, 4));
            Check.same("DEPTH", map.look(2), depth);
            int half = 1 << (depth - 1);
            int[] entries = {0, half - 1, half, 2 * half - 1};
            for (int i = 0; i < 4; i++) {
                List<Integer> key = edges.get(i);
                int page = map.entry(entries[i]);
                int before = map.bucket(page, 1);
                Check.same("put with DEPTH " + depth, map.put(key, 1, 7), HashPages.DONE);
                Check.same("it is in the BUCKET of ENTRY " + entries[i], map.bucket(page, 1), before + 1);
                Check.same("get", map.get(key), 1);
                Check.same("remove", map.remove(key), HashPages.DONE);
                Check.same("it is not in the BUCKET of ENTRY " + entries[i], map.bucket(page, 1), before);
            }
        }
    }

    private static void entriesAlike() {
        Check.sentence("part 1", "All ENTRIES whose first D bits are alike tell the same BUCKET of depth D, and only these.");
        Subject map = Subject.formatted(60, 5);
        for (int prefix : new int[] {5, 5 + 64, 90, 127}) {
            map.putAll(Keys.twos(2 * prefix, 8, 4));
            map.putAll(Keys.twos(2 * prefix + 1, 8, 4));
        }
        int depth = map.look(2);
        Check.same("DEPTH", depth, 8);
        int[] entries = new int[1 << depth];
        for (int i = 0; i < entries.length; i++) {
            entries[i] = map.entry(i);
            Check.same("kind of what ENTRY " + i + " tells", map.kind(entries[i]), 5);
        }
        for (int i = 0; i < entries.length; i++) {
            int rest = depth - map.bucket(entries[i], 0);
            for (int j = 0; j < entries.length; j++) {
                Check.holds("ENTRIES " + i + " and " + j, i >> rest == j >> rest == (entries[i] == entries[j]));
            }
        }
    }

    private static void pagesOf256Bytes() {
        Check.sentence("part 1", "bytes 2 and 3 how many bytes these have together (the higher one first; 252 at most), then "
            + "these, all else 0");
        Subject map = Subject.formatted(12, 3);
        map.fill(16, 1);
        map.fill(32, 2);
        map.put(16);
        map.fill(1, 3);
        map.put(1);
        map.fill(16, 4);
        map.put(16);
        map.fill(1, 5);
        map.fill(32, 6);
        map.put(1);
        int[] sizes = {50, 3, 18, 35};
        int[][] due = {{1, 16, 2, 32}, {3, 1, 0, 0}, {4, 16, 0, 0}, {5, 1, 6, 32}};
        int at = 4;
        for (int r = 0; r < 4; r++) {
            Check.same("the key's size", map.byteOf(6, at), due[r][1]);
            Check.same("the value's size", map.byteOf(6, at + 1), due[r][3]);
            Check.same("the key's first byte", map.byteOf(6, at + 2), due[r][0]);
            Check.same("the last byte", map.byteOf(6, at + sizes[r] - 1), due[r][3] > 0 ? due[r][2] : due[r][0]);
            at += sizes[r];
        }
        Check.same("behind the last one", map.byteOf(6, at), 0);
        Check.same("bytes 2 and 3", map.byteOf(6, 2) * 1000 + map.byteOf(6, 3), 106);
        for (int i = 0; i < 2; i++) {
            map.fill(16, 7 + i);
            map.fill(32, 200 + i);
            Check.same("put", map.put(16), HashPages.DONE);
        }
        map.fill(12, 9);
        map.fill(32, 255);
        Check.same("put up to 252 bytes", map.put(12), HashPages.DONE);
        Check.same("bytes 2 and 3", map.byteOf(6, 2) * 1000 + map.byteOf(6, 3), 252);
        Check.same("the PAGE's last byte", map.byteOf(6, 255), 255);
        Check.same("DEPTH", map.look(2), 0);
        map.fill(12, 9);
        map.remove();
        for (int i = 4 + 206; i < 256; i++) {
            Check.same("all else is 0: byte " + i, map.byteOf(6, i), 0);
        }
    }

    private static void imagesUpToLog() {
        Check.sentence("part 1", "PAGES 2 to LOG + 1 are for IMAGES.");
        Subject map = Subject.formatted(40, 3);
        map.putAll(Keys.twos(100, 9, 4));
        map.putAll(Keys.twos(101, 9, 4));
        map.pageIs("the last IMAGE, of the last SPLIT's DIRECTORY PAGE", 4, bytesOf(map, 5));
        Check.same("kind(1)", map.kind(1), 2);
        Check.same("kind(2)", map.kind(2), 3);
        Check.same("kind(4)", map.kind(4), 3);
        Check.same("kind(5)", map.kind(5), 4);
        map.pageIs("the HEAD", 0, 9, 5, 15);
        map.pageIs("the JOURNAL", 1);
    }

    private static int[] bytesOf(Subject map, int page) {
        int[] bytes = new int[256];
        for (int i = 0; i < 256; i++) {
            bytes[i] = map.byteOf(page, i);
        }
        return bytes;
    }

    private static void mapsOwnMemory() {
        Check.sentence("the sentences behind the parts", "All memory is the map's own.");
        Subject first = Subject.formatted(12, 3);
        Subject second = Subject.formatted(12, 3);
        first.put(Keys.of(1), 2, 10);
        second.feed(3, 1, 1);
        Check.same("tapes", first.look(9) * 10 + second.look(9), 3);
        second.put(1);
        first.get(Keys.of(1));
        Check.same("ANSWERS", first.answer(0) * 10 + second.answer(0), 99);
        second.power(0);
        Check.same("put", second.put(Keys.of(2), 1, 1), HashPages.DOWN);
        Check.same("the power of the other one", first.look(7) * 10 + first.look(8), -1);
        Check.same("put", first.put(Keys.of(2), 1, 1), HashPages.DONE);
        first.pageIs("the first one's BUCKET", 6, 0, 2, 0, 9, 1, 2, 1, 10, 10, 1, 1, 2, 1);
        second.pageIs("the second one's BUCKET", 6, 0, 1, 0, 5, 1, 2, 1, 0, 0);
        second.format(8, 2);
        Check.same("PAGES of the other one", first.look(0), 12);
        Check.same("RECORDS of the other one", first.look(5), 2);
    }

    private static void of512Calls() {
        Check.sentence("what it is", "An object is used for at most 512 calls after it has been made");
        HashPages map = new HashPages();
        for (int i = 0; i < 254; i++) {
            Check.same("feed", map.feed(4, i | 0x332200L | (long) i << 24, 0), 4);
            Check.same("put", map.put(1), HashPages.DONE);
        }
        Check.same("call 509", map.feed(1, 253, 0), 1);
        Check.same("call 510", map.get(), 3);
        Check.same("call 511", map.answer(2), 253);
        Check.same("call 512", map.look(5), 254);
    }

    public static void main(String[] args) {
        bucketOfAKey();
        entriesAlike();
        pagesOf256Bytes();
        imagesUpToLog();
        mapsOwnMemory();
        of512Calls();
        Check.end();
    }
}
