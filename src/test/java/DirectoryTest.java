import java.util.List;

/** What part 3 says of the CHANGES themselves, on directories of one PAGE and of several. */
public final class DirectoryTest {
    private static int putLast(Subject map, List<List<Integer>> keys, int index) {
        List<Integer> key = keys.get(index);
        return map.put(key, 32, key.get(0));
    }

    /** Entries 00, 01 and 1 of three buckets; four keys in each of the first two, none in the third. */
    private static Subject threeBuckets() {
        Subject map = Subject.formatted(20, 3);
        map.putAll(Keys.twos(0, 2, 4));
        map.putAll(Keys.twos(1, 2, 4));
        Check.same("DEPTH", map.look(2), 2);
        int[] due = {6, 8, 7, 7};
        for (int i = 0; i < due.length; i++) {
            Check.same("entry(" + i + ")", map.entry(i), due[i]);
        }
        return map;
    }

    private static void entriesOfADoubling() {
        Check.sentence("part 3", "DOUBLING: DEPTH is one more, ENTRY i is what ENTRY i / 2 (cut) was");
        Subject map = threeBuckets();
        List<List<Integer>> keys = Keys.twos(0, 3, 9);
        List<List<Integer>> more = Keys.twos(1, 3, 9);
        int put = 0;
        while (map.bucket(6, 2) < 252 && put < 8) {
            map.put(put % 2 == 0 ? keys.get(8 - put / 2) : more.get(8 - put / 2), 32, 1);
            put++;
        }
        Check.same("a full BUCKET of depth 2", map.bucket(6, 0) * 1000 + map.bucket(6, 2), 2252);
        map.power(6);
        Check.same("the DOUBLING alone", map.put(Keys.threes(0, 2, 1).get(0), 32, 1), HashPages.DOWN);
        Check.same("recover", map.recover(-1), HashPages.DONE);
        Check.same("DEPTH", map.look(2), 3);
        map.pageIs("the DIRECTORY", 5, 6, 6, 8, 8, 7, 7, 7, 7);
        map.pageIs("the HEAD", 0, 3, 5);
        Check.same("PAGES FREE", map.look(4), 20 - 9);
    }

    private static void entriesOfASplit() {
        Check.sentence("part 3", "the ENTRIES that have a 1 there, of those that told the BUCKET, tell the new one");
        Subject map = Subject.formatted(20, 3);
        map.putAll(Keys.twos(0, 3, 4));
        map.putAll(Keys.twos(1, 3, 4));
        Check.same("DEPTH", map.look(2), 3);
        map.pageIs("the DIRECTORY", 5, 6, 9, 8, 8, 7, 7, 7, 7);
        map.putAll(Keys.twos(4, 3, 4));
        map.putAll(Keys.twos(7, 3, 4));
        map.pageIs("a SPLIT by bit 1 of four ENTRIES", 5, 6, 9, 8, 8, 7, 7, 10, 10);
        map.pageIs("the 0 stays", 7, Pages.bucketOf(2, Keys.twos(4, 3, 4)));
        map.pageIs("the 1 goes", 10, Pages.bucketOf(2, Keys.twos(7, 3, 4)));
        Check.same("depth of another BUCKET", map.bucket(8, 0), 2);
    }

    private static void recordsOfASplit() {
        Check.sentence("part 3", "those with a 1 as bit D of their HASH .. go there, the others stay, both in their order; "
            + "both have D one more");
        List<List<Integer>> zeros = Keys.twos(0, 1, 4);
        List<List<Integer>> ones = Keys.twos(1, 1, 4);
        Subject map = Subject.formatted(12, 3);
        int[] order = {3, 0, 2, 1};
        for (int i : order) {
            putLast(map, ones, i);
            putLast(map, zeros, i);
        }
        map.pageIs("the others stay", 6, Pages.bucketOf(1, List.of(zeros.get(3), zeros.get(0), zeros.get(2),
            zeros.get(1))));
        map.pageIs("those with a 1 go", 7, Pages.bucketOf(1, List.of(ones.get(3), ones.get(0), ones.get(2),
            ones.get(1))));
        Check.sentence("part 3", "those with a 1 .. go there, the others stay (all or none of them)");
        Subject allStay = Subject.formatted(12, 3);
        allStay.putAll(Keys.twos(0, 2, 4));
        allStay.putAll(Keys.twos(1, 2, 3));
        Check.same("put", putLast(allStay, Keys.twos(1, 2, 4), 3), HashPages.DONE);
        allStay.pageIs("none has a 1 as bit 0", 7, 1);
        allStay.pageIs("the 00", 6, Pages.bucketOf(2, Keys.twos(0, 2, 4)));
        allStay.pageIs("the 01", 8, Pages.bucketOf(2, Keys.twos(1, 2, 4)));
        Subject allGo = Subject.formatted(12, 3);
        allGo.putAll(Keys.twos(2, 2, 4));
        allGo.putAll(Keys.twos(3, 2, 3));
        Check.same("put", putLast(allGo, Keys.twos(3, 2, 4), 3), HashPages.DONE);
        allGo.pageIs("all have a 1 as bit 0", 6, 1);
        allGo.pageIs("the 10", 7, Pages.bucketOf(2, Keys.twos(2, 2, 4)));
        allGo.pageIs("the 11", 8, Pages.bucketOf(2, Keys.twos(3, 2, 4)));
    }

    /** Two groups of keys that part at bit 8, so that one put goes from DEPTH 0 to 9. */
    private static final int SPLITS_TO_8 = 8;

    private static Subject cutTo9(int writes) {
        Subject map = Subject.formatted(40, 3);
        map.putAll(Keys.twos(100, 9, 4));
        map.putAll(Keys.twos(101, 9, 3));
        map.power(SPLITS_TO_8 * (6 + 8) + writes);
        Check.same("put", putLast(map, Keys.twos(101, 9, 4), 3), HashPages.DOWN);
        return map;
    }

    private static void from8To9() {
        Check.sentence("part 1", "256 of them lie in a PAGE (what is behind the last one is 0), so it has as many PAGES as "
            + "that needs");
        Subject before = cutTo9(0);
        Check.same("DEPTH", before.look(2), 8);
        before.pageIs("the HEAD", 0, 8, 5);
        Check.same("ENTRY 255", before.entry(255), before.byteOf(5, 255));
        Check.same("ENTRY 255 is the BUCKET of the ones", before.entry(255), 7);
        Check.same("ENTRY 256", before.entry(256), -1);
        Check.same("PAGES FREE", before.look(4), 40 - 7 - 8);
        Check.sentence("part 3", "the DIRECTORY's PAGES are those of before, then FREE ones .. The CHANGE: the DIRECTORY's "
            + "PAGES in their order, the HEAD");
        int[] first = new int[256];
        int[] second = new int[256];
        for (int i = 0; i < 512; i++) {
            (i < 256 ? first : second)[i % 256] = before.entry(i / 2);
        }
        Subject told = cutTo9(4);
        told.pageIs("the JOURNAL", 1, 3, 5, 15, 0);
        told.pageIs("the first IMAGE", 2, first);
        told.pageIs("the second IMAGE", 3, second);
        told.pageIs("the third IMAGE", 4, 9, 5, 15);
        Check.same("page 15 is FREE still", told.kind(15), 0);
        Subject after = cutTo9(8);
        Check.same("DEPTH", after.look(2), 9);
        after.pageIs("the HEAD", 0, 9, 5, 15);
        after.pageIs("its first PAGE", 5, first);
        after.pageIs("its second PAGE", 15, second);
        Check.same("page 15 is the DIRECTORY's", after.kind(15), 4);
        Check.same("ENTRY 511", after.entry(511), 7);
        Check.same("ENTRY 512", after.entry(512), -1);
    }

    /** Depth 7 has 128 entries; halved from 8, the other half of the page is 0 again. */
    private static void from9To7() {
        Check.sentence("part 3", "HALVING: .. DEPTH is one less, ENTRY i is what ENTRY 2 * i was, in the first of its PAGES");
        Subject map = Subject.formatted(40, 3);
        map.putAll(Keys.twos(100, 9, 4));
        map.putAll(Keys.twos(101, 9, 4));
        map.putAll(Keys.twos(96, 9, 2));
        map.putAll(Keys.twos(104, 9, 2));
        Check.same("DEPTH", map.look(2), 9);
        int[] entries = new int[512];
        for (int i = 0; i < 512; i++) {
            entries[i] = map.entry(i);
        }
        int[] freed = new int[256];
        for (int i = 0; i < 256; i++) {
            freed[i] = map.byteOf(15, i);
        }
        map.removeAll(Keys.twos(101, 9, 4));
        Check.same("DEPTH", map.look(2), 9);
        Check.same("remove", map.remove(Keys.twos(100, 9, 1).get(0)), HashPages.DONE);
        int depth = map.look(2);
        Check.same("108 and 72 bytes do not merge", depth, 7);
        map.pageIs("the HEAD", 0, depth, 5);
        int[] due = new int[256];
        for (int i = 0; i < 1 << depth; i++) {
            due[i] = entries[i << (9 - depth)];
        }
        map.pageIs("the DIRECTORY", 5, due);
        Check.same("ENTRY 127", map.entry(127), 7);
        Check.same("ENTRY 128", map.entry(128), -1);
        Check.sentence("part 1", "FREE are PAGES behind the IMAGES that are neither the DIRECTORY's nor a BUCKET's; what they "
            + "have in them stays.");
        Check.same("its second PAGE is FREE", map.kind(15), 0);
        map.pageIs("what it had in it", 15, freed);
    }

    /** The half of the ones is split into 9 and 10, the zeros go down to depth 9, then 9 and 10 are one again. */
    private static Subject with10Free() {
        Subject map = Subject.formatted(60, 5);
        map.putAll(Keys.twos(2, 2, 4));
        map.putAll(Keys.twos(3, 2, 4));
        map.putAll(Keys.twos(100, 9, 4));
        map.putAll(Keys.twos(101, 9, 4));
        map.pageIs("the HEAD", 0, 9, 7, 18);
        map.removeAll(Keys.twos(3, 2, 4));
        map.removeAll(Keys.twos(2, 2, 1));
        Check.same("page 9 is a BUCKET", map.kind(9), 5);
        Check.same("page 10 is FREE", map.kind(10), 0);
        Check.same("the last PAGE taken", map.kind(19), 5);
        Check.same("the PAGE behind it", map.kind(20), 0);
        return map;
    }

    private static void leastFreePage() {
        Check.sentence("part 1", "Where one is taken it is the FREE one with the least number.");
        Subject doubled = with10Free();
        List<List<Integer>> more = Keys.joined(Keys.twos(200, 10, 5), Keys.twos(201, 10, 5));
        for (List<Integer> key : more) {
            doubled.put(key, 32, 1);
        }
        doubled.pageIs("those of before, then the least FREE ones", 0, 10, 7, 18, 10, 20);
        Check.same("the BUCKET behind them", doubled.kind(21), 5);
        Check.same("no other one", doubled.kind(22), 0);
        Subject split = with10Free();
        split.putAll(Keys.twos(2, 2, 1));
        split.putAll(Keys.twos(3, 2, 4));
        Check.same("a SPLIT of page 9 takes page 10", split.kind(10), 5);
        Check.same("the 11", split.entry(511), 10);
        Check.same("page 20 is FREE", split.kind(20), 0);
        split.pageIs("the new BUCKET", 10, Pages.bucketOf(2, Keys.twos(3, 2, 4)));
    }

    /** DEPTH 11, of eight pages; the ones are in one bucket of depth 1, for which four of the pages stand. */
    private static Subject eightPages() {
        Subject map = Subject.formatted(80, 9);
        map.putAll(Keys.twos(0, 11, 4));
        map.putAll(Keys.twos(1, 11, 4));
        Check.same("DEPTH", map.look(2), 11);
        Check.same("depth of the BUCKET of the ones", map.bucket(map.entry(2047), 0), 1);
        Check.same("its first ENTRY", map.entry(1024), map.entry(2047));
        return map;
    }

    private static void manyPagesOfASplit() {
        Check.sentence("part 3", "The CHANGE: the BUCKET, the new one, the DIRECTORY's PAGES in which an ENTRY changes, in "
            + "their order.");
        Subject map = eightPages();
        map.putAll(Keys.twos(2, 2, 4));
        map.putAll(Keys.twos(3, 2, 3));
        int bucket = map.entry(2047);
        int free = 2;
        while (map.kind(free) != 0) {
            free++;
        }
        int seventh = map.byteOf(0, 7);
        int eighth = map.byteOf(0, 8);
        int before = map.look(6);
        map.power(5);
        Check.same("put", putLast(map, Keys.twos(3, 2, 4), 3), HashPages.DOWN);
        map.pageIs("the JOURNAL", 1, 4, bucket, free, seventh, eighth);
        map.pageIs("the IMAGE of the BUCKET", 2, Pages.bucketOf(2, Keys.twos(2, 2, 4)));
        map.pageIs("the IMAGE of the new one", 3, Pages.bucketOf(2, Keys.twos(3, 2, 3)));
        Check.same("the last IMAGE", map.byteOf(5, 255), free);
        Check.same("recover", map.recover(-1), HashPages.DONE);
        Check.same("WRITES", map.look(6), before + 10);
        Check.same("ENTRY 1535", map.entry(1535), bucket);
        Check.same("ENTRY 1536", map.entry(1536), free);
        Check.same("ENTRY 1791", map.entry(1791), free);
        Check.same("ENTRY 1792", map.entry(1792), free);
        Check.same("ENTRY 2047", map.entry(2047), free);
        Check.same("ENTRY 1023", map.entry(1023) == bucket ? 1 : 0, 0);
        Check.sentence("part 3", "The CHANGE: that BUCKET, the DIRECTORY's PAGES in which an ENTRY changes.");
        map.removeAll(Keys.twos(3, 2, 3));
        before = map.look(6);
        map.power(1 + 4);
        Check.same("remove", map.remove(Keys.twos(2, 2, 1).get(0)), HashPages.DOWN);
        map.pageIs("the JOURNAL", 1, 3, bucket, seventh, eighth);
        map.pageIs("the IMAGE of the BUCKET", 2, Pages.bucketOf(1, Keys.twos(2, 2, 4).subList(1, 4)));
        Check.same("recover", map.recover(-1), HashPages.DONE);
        Check.same("ENTRY 2047", map.entry(2047), bucket);
        Check.same("DEPTH, as other BUCKETS have it", map.look(2), 11);
        Check.same("WRITES", map.look(6), before + 1 + 4 + 3 + 1);
    }

    private static void manyPagesOfAHalving() {
        Check.sentence("part 3", "The CHANGE: these, in their order, the HEAD.");
        Subject map = eightPages();
        int[] head = new int[9];
        for (int i = 0; i < 9; i++) {
            head[i] = map.byteOf(0, i);
        }
        map.removeAll(Keys.twos(1, 11, 4));
        int before = map.look(6);
        Subject cut = eightPages();
        cut.removeAll(Keys.twos(1, 11, 4));
        cut.power(1 + mergeWrites() + 6);
        Check.same("remove", cut.remove(Keys.twos(0, 11, 1).get(0)), HashPages.DOWN);
        Check.same("all is one BUCKET", cut.look(3), 1);
        cut.pageIs("the JOURNAL", 1, 5, head[1], head[2], head[3], head[4], 0);
        cut.pageIs("the IMAGE of the HEAD", 6, 10, head[1], head[2], head[3], head[4]);
        Check.same("remove", map.remove(Keys.twos(0, 11, 1).get(0)), HashPages.DONE);
        Check.same("DEPTH", map.look(2), 0);
        Check.same("WRITES", map.look(6), before + 1 + mergeWrites() + 12 + 8 + 6 * 9);
        map.pageIs("the HEAD", 0, 0, head[1]);
    }

    /** Eleven merges; that of depth D changes 2 to the (11 - D) entries behind the first as many. */
    private static int mergeWrites() {
        int writes = 0;
        for (int own = 11; own >= 1; own--) {
            int changed = 1 << (11 - own);
            int pages = Math.max(1, changed / 256);
            writes += 2 * (1 + pages) + 2;
        }
        return writes;
    }

    public static void main(String[] args) {
        entriesOfADoubling();
        entriesOfASplit();
        recordsOfASplit();
        from8To9();
        from9To7();
        leastFreePage();
        manyPagesOfASplit();
        manyPagesOfAHalving();
        Check.end();
    }
}
