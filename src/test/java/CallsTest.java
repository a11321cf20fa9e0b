import java.util.Arrays;
import java.util.List;

/** Promises 1 to 9, with answers reckoned by hand from the document. */
public final class CallsTest {
    private static final List<Integer> KEY = Keys.of('k');

    private static void newDisk(String what, HashPages map, int pages, int log) {
        Check.same(what + ": PAGES", map.look(0), pages);
        Check.same(what + ": LOG", map.look(1), log);
        Check.same(what + ": DEPTH", map.look(2), 0);
        Check.same(what + ": buckets", map.look(3), 1);
        Check.same(what + ": free", map.look(4), pages - log - 4);
        Check.same(what + ": records", map.look(5), 0);
        Check.same(what + ": writes", map.look(6), 0);
        Check.same(what + ": down", map.look(7), 0);
        Check.same(what + ": allowed", map.look(8), -1);
        Check.same(what + ": images", map.look(10), 0);
        Check.same(what + ": entry", map.entry(0), log + 3);
        Check.same(what + ": answer", map.answer(0), -1);
        for (int page = 0; page < pages; page++) {
            Maps.page(what, map, page, page == log + 2 ? log + 3 : 0, page == 0 ? log + 2 : 0);
        }
    }

    private static void newObject() {
        HashPages map = new HashPages();
        newDisk("new", map, 64, 8);
        Check.same("new: tape", map.look(9), 0);
        Check.same("new: the tape's hash", map.hash(), -1);
    }

    private static void format() {
        int[][] good = {{8, 2}, {8, 4}, {255, 2}, {255, 100}, {104, 100}, {9, 5}, {20, 4}};
        for (int[] disk : good) {
            newDisk("format", Maps.formatted(disk[0], disk[1]), disk[0], disk[1]);
        }
        HashPages map = new HashPages();
        Maps.put(map, KEY, 3, 9);
        Maps.get(map, KEY);
        Maps.fill(map, 5, 1);
        map.power(0);
        int[][] bad = {{7, 2}, {256, 8}, {-1, 2}, {0, 0}, {20, 1}, {20, 0}, {20, -3}, {255, 101}, {103, 100}, {8, 5},
            {Integer.MAX_VALUE, 2}, {Integer.MIN_VALUE, 2}, {20, Integer.MAX_VALUE}, {20, Integer.MIN_VALUE}};
        int[] before = Maps.bytes(map);
        for (int[] disk : bad) {
            Check.fails("format(" + disk[0] + ", " + disk[1] + ")", IllegalArgumentException.class, () -> {
                map.format(disk[0], disk[1]);
                return 0;
            });
        }
        Check.holds("a bad format changes no byte", Arrays.equals(before, Maps.bytes(map)));
        Check.same("a bad format leaves the answer", map.answer(2), 9);
        Check.same("a bad format leaves the power", map.look(8), 0);
        Check.same("a bad format leaves the tape", map.look(9), 5);
        Check.same("put without power", map.put(1), HashPages.DOWN);
        Maps.fill(map, 5, 1);
        map.format(30, 7);
        newDisk("format of a disk that is DOWN", map, 30, 7);
        Check.same("format leaves the tape", map.look(9), 5);
    }

    private static void formatForgets() {
        HashPages map = Maps.formatted(200, 4);
        for (int i = 0; i < 80; i++) {
            Maps.put(map, Keys.of(i, 7), 30, i);
        }
        map.format(10, 3);
        newDisk("a smaller disk", map, 10, 3);
        map.format(255, 100);
        newDisk("a larger disk", map, 255, 100);
    }

    private static void feed() {
        HashPages map = new HashPages();
        Check.same("feed(16)", map.feed(16, 0x8877665544332211L, 0xFFEEDDCCBBAA9900L), 16);
        Check.same("put", map.put(1), HashPages.DONE);
        int[] due = {0x22, 0x33, 0x44, 0x55, 0x66, 0x77, 0x88, 0, 0x99, 0xAA, 0xBB, 0xCC, 0xDD, 0xEE, 0xFF};
        Check.same("the key's byte", map.record(11, 0, 0, 0), 0x11);
        for (int i = 0; i < due.length; i++) {
            Check.same("byte " + i + " behind the key", map.record(11, 0, 1, i), due[i]);
        }
        Check.same("feed(9)", map.feed(9, -1L, -2L), 9);
        Check.same("put", map.put(9), HashPages.DONE);
        Check.same("byte 7 is a's last", map.record(11, 1, 0, 7), 255);
        Check.same("byte 8 is b's first", map.record(11, 1, 0, 8), 254);
        for (int n : new int[] {0, 17, -1, Integer.MAX_VALUE, Integer.MIN_VALUE}) {
            Check.fails("feed(" + n + ")", IllegalArgumentException.class, () -> map.feed(n, 1, 1));
        }
        Check.same("a bad feed leaves the tape", map.look(9), 0);
        Check.same("feed to 16", map.feed(16, 1, 1), 16);
        Check.same("feed to 32", map.feed(16, 1, 1), 32);
        Check.same("feed to 47", map.feed(15, 1, 1), 47);
        Check.fails("feed to 49", UnsupportedOperationException.class, () -> map.feed(2, 1, 1));
        Check.fails("feed(17) on a full tape", IllegalArgumentException.class, () -> map.feed(17, 1, 1));
        Check.same("feed to 48", map.feed(1, 1, 1), 48);
        Check.fails("feed to 49", UnsupportedOperationException.class, () -> map.feed(1, 1, 1));
        Check.same("48 bytes stay", map.look(9), 48);
    }

    private static void putAndReplace() {
        HashPages map = Maps.formatted(20, 4);
        Check.same("put", Maps.put(map, Keys.of(1, 2), 2, 9), HashPages.DONE);
        Check.same("the tape is empty", map.look(9), 0);
        Check.same("put of no value", Maps.put(map, Keys.of(1), 0, 0), HashPages.DONE);
        Maps.page("two records", map, 7, 0, 2, 0, 9, 2, 2, 1, 2, 9, 9, 1, 0, 1);
        Check.same("put again", Maps.put(map, Keys.of(1, 2), 1, 8), HashPages.DONE);
        Maps.page("replaced", map, 7, 0, 2, 0, 8, 1, 0, 1, 2, 1, 1, 2, 8);
        Check.same("one write each", map.look(6), 3);
        Maps.feed(map, Keys.of(1, 2, 3));
        Check.same("key and value of the same bytes", map.put(2), HashPages.DONE);
        Maps.page("replaced again", map, 7, 0, 2, 0, 8, 1, 0, 1, 2, 1, 1, 2, 3);
    }

    private static void putThrows() {
        HashPages map = new HashPages();
        int[][] bad = {{0, 3}, {-1, 3}, {17, 48}, {4, 3}, {1, 34}, {15, 48}, {1, 0}, {Integer.MIN_VALUE, 48},
            {Integer.MAX_VALUE, 48}};
        for (int[] call : bad) {
            Maps.fill(map, call[1], 5);
            Check.fails("put(" + call[0] + ") of " + call[1], IllegalArgumentException.class, () -> map.put(call[0]));
            Check.same("put(" + call[0] + "): the tape is empty then", map.look(9), 0);
        }
        Check.same("a bad put writes nothing", map.look(6), 0);
        int[][] good = {{1, 33}, {16, 48}, {16, 16}, {3, 3}};
        for (int[] call : good) {
            Maps.fill(map, call[1], 5);
            Check.same("put(" + call[0] + ") of " + call[1], map.put(call[0]), HashPages.DONE);
        }
        map.power(0);
        Check.same("put without power", Maps.put(map, KEY, 1, 1), HashPages.DOWN);
        Check.same("DOWN empties the tape", map.look(9), 0);
        Maps.fill(map, 3, 5);
        Check.fails("put(0) while DOWN", IllegalStateException.class, () -> map.put(0));
        Check.same("put while DOWN empties the tape", map.look(9), 0);
    }

    /** Five records of 50 bytes fill 250 of 252; LOG 3 allows a split of three pages, and no more. */
    private static void doubleAndSplit() {
        HashPages map = Maps.formatted(12, 3);
        List<List<Integer>> zeros = Keys.withPrefix(0, 1, 5);
        List<List<Integer>> ones = Keys.withPrefix(1, 1, 3);
        for (int i = 0; i < 3; i++) {
            Maps.put(map, zeros.get(i), 32, i);
            Maps.put(map, ones.get(i), 32, 100 + i);
        }
        Check.same("six records of 36", map.bucket(6, 2), 216);
        Check.same("no split yet", map.look(6), 6);
        Check.same("a seventh has its place: 252", Maps.put(map, zeros.get(3), 32, 3), HashPages.DONE);
        Check.same("252 bytes", map.bucket(6, 2), 252);
        Check.same("DEPTH is 0", map.look(2), 0);
        Check.same("a value of the same size has its place", Maps.put(map, zeros.get(0), 32, 77), HashPages.DONE);
        Check.same("eight writes", map.look(6), 8);
        Check.same("the eighth doubles and splits", Maps.put(map, zeros.get(4), 0, 0), HashPages.DONE);
        Check.same("6 + 8 + 1 writes", map.look(6), 23);
        Maps.page("HEAD", map, 0, 1, 5);
        Maps.page("JOURNAL", map, 1);
        Maps.page("DIRECTORY", map, 5, 6, 7);
        Maps.page("the last change's third image", map, 4, 6, 7);
        Check.same("depth of the bucket", map.bucket(6, 0), 1);
        Check.same("depth of the new one", map.bucket(7, 0), 1);
        Check.same("records that stay", map.bucket(6, 1), 5);
        Check.same("records that go", map.bucket(7, 1), 3);
        int[] order = {1, 2, 3, 0};
        for (int r = 0; r < 4; r++) {
            Check.same("those stay in order", map.record(6, r, 0, 0), zeros.get(order[r]).get(0));
        }
        for (int r = 0; r < 3; r++) {
            Check.same("those go in order", map.record(7, r, 1, 0), 100 + r);
        }
        Check.same("the image of the new bucket", map.byteOf(3, 1), 3);
    }

    private static void refusedForLog() {
        HashPages map = Maps.formatted(20, 2);
        List<List<Integer>> keys = Keys.withPrefix(0, 1, 7);
        for (List<Integer> key : keys) {
            Maps.put(map, key, 32, 1);
        }
        Check.same("LOG 2 allows no split", Maps.put(map, Keys.withPrefix(1, 1, 1).get(0), 0, 0), HashPages.LOG);
        Check.same("the doubling stays", map.look(2), 1);
        Check.same("seven puts and a doubling", map.look(6), 13);
        Check.same("both entries tell the bucket", map.entry(0) * 100 + map.entry(1), 505);
        Check.same("the bucket's depth", map.bucket(5, 0), 0);
        Check.same("again", Maps.put(map, Keys.withPrefix(1, 1, 1).get(0), 0, 0), HashPages.LOG);
        Check.same("no second doubling", map.look(6), 13);
        Check.same("a remove halves again", Maps.remove(map, keys.get(0)), HashPages.DONE);
        Check.same("DEPTH is 0", map.look(2), 0);
        Check.same("one write and a halving", map.look(6), 20);
        Maps.page("HEAD", map, 0, 0, 4);
        Maps.page("DIRECTORY", map, 4, 5);
    }

    private static void refusedForDisk() {
        HashPages map = Maps.formatted(8, 4);
        List<List<Integer>> keys = Keys.withPrefix(1, 1, 7);
        for (List<Integer> key : keys) {
            Maps.put(map, key, 32, 1);
        }
        List<Integer> more = Keys.withPrefix(0, 1, 1).get(0);
        Check.same("no page for a split", Maps.put(map, more, 0, 0), HashPages.DISK);
        Check.same("the doubling stays", map.look(2), 1);
        Check.same("the records stay", map.look(5), 7);
        HashPages both = Maps.formatted(8, 2);
        fillBucket(both, keys);
        Check.same("LOG, as long as there is a page", Maps.put(both, more, 0, 0), HashPages.LOG);
        Check.same("two pages", both.look(4), 2);
    }

    private static void fillBucket(HashPages map, List<List<Integer>> keys) {
        for (List<Integer> key : keys) {
            Maps.put(map, key, 32, 1);
        }
    }

    private static void refusedAlike() {
        HashPages map = new HashPages();
        List<List<Integer>> keys = Keys.withHash(12345, 9);
        int put = 0;
        while (put < 8 && Maps.put(map, keys.get(put), 32, put) == HashPages.DONE) {
            put++;
        }
        Check.same("six or seven records have a place", map.bucket(11, 1), put);
        Check.same("ALIKE", Maps.put(map, keys.get(8), 32, 1), HashPages.ALIKE);
        Check.same("ALIKE does nothing", map.look(6), put);
        Check.same("DEPTH is 0", map.look(2), 0);
        Check.same("a key that is there has its place", Maps.put(map, keys.get(0), 32, 55), HashPages.DONE);
        List<Integer> other = Keys.withHash(12345 ^ 256, 1).get(0);
        Check.same("another hash splits", Maps.put(map, other, 32, 1), HashPages.DONE);
        Check.same("DEPTH is up to the bit that differs", map.look(2), 8);
        Check.same("all alike in the bucket again", Maps.put(map, keys.get(8), 32, 1), HashPages.ALIKE);
    }

    /** One record of another hash is enough for a split, wherever it stands among the others. */
    private static void oneOtherHash() {
        List<List<Integer>> alike = Keys.withHash(12345, 7);
        List<Integer> other = Keys.withHash(12345 ^ 16384, 1).get(0);
        for (int place = 0; place <= 5; place++) {
            HashPages map = new HashPages();
            fillBucket(map, alike.subList(0, place));
            Maps.put(map, other, 32, 1);
            fillBucket(map, alike.subList(place, 5));
            Check.same("six records", map.bucket(11, 1), 6);
            Check.same("put of the next", Maps.put(map, alike.get(5), 32, 1), HashPages.DONE);
            Check.same("put of the last", Maps.put(map, alike.get(6), 32, 1),
                36 * 7 >= recordBytes(alike) ? HashPages.DONE : HashPages.ALIKE);
            Check.same("DEPTH tells the bit that differs", map.look(2), 2);
            Check.same("the other one is alone", map.bucket(map.entry(1), 1), 1);
        }
    }

    private static int recordBytes(List<List<Integer>> keys) {
        int sum = 0;
        for (List<Integer> key : keys) {
            sum += 2 + key.size() + 32;
        }
        return sum;
    }

    /** With LOG 3 and two directory pages, a split of three pages that ends with a directory page is still allowed. */
    private static void splitAtPageEnd() {
        HashPages map = Maps.formatted(60, 3);
        List<List<Integer>> low = Keys.withPrefix(0, 9, 4);
        List<List<Integer>> high = Keys.withPrefix(1, 9, 4);
        fillBucket(map, low);
        fillBucket(map, high);
        Check.same("DEPTH is 9", map.look(2), 9);
        Check.same("256 entries tell the bucket of the ones", map.entry(256), map.entry(511));
        fillBucket(map, Keys.withPrefix(2, 2, 4));
        int before = map.look(6);
        fillBucket(map, Keys.withPrefix(3, 2, 3));
        Check.same("no split yet", map.look(6), before + 3);
        Check.same("the split", Maps.put(map, Keys.withPrefix(3, 2, 4).get(3), 32, 1), HashPages.DONE);
        Check.same("eight writes and one", map.look(6), before + 3 + 9);
        Check.same("entry 383 tells the old one", map.entry(383), map.entry(256));
        Check.same("entry 384 tells the new one", map.entry(384), map.entry(511));
        Check.holds("they differ", map.entry(256) != map.entry(511));
    }

    /** Keys with 14 bits alike need DEPTH 15, of 128 pages: more than any LOG allows. */
    private static void bothLackingIsDisk() {
        HashPages map = Maps.formatted(255, 100);
        List<List<Integer>> deep = Keys.withPrefix(0, 14, 8);
        fillBucket(map, deep.subList(0, 6));
        Check.same("DEPTH is 0", map.look(2), 0);
        int status = HashPages.DONE;
        for (int i = 6; i < 8 && status == HashPages.DONE; i++) {
            status = Maps.put(map, deep.get(i), 32, 1);
        }
        Check.same("with 64 free pages it is the LOG that lacks", status, HashPages.LOG);
        Check.same("the doublings ahead stay: 14, of 64 pages", map.look(2), 14);
        Check.holds("64 free pages", map.look(4) >= 64);
        int before = map.look(6);
        Check.same("again", Maps.put(map, deep.get(7), 32, 1), HashPages.LOG);
        Check.same("nothing more is done", map.look(6), before);
        for (int i = 1; i < 32 && map.look(4) >= 64; i++) {
            fillBucket(map, Keys.withPrefix(i, 5, 8));
        }
        Check.holds("fewer than 64 free pages", map.look(4) < 64);
        Check.same("of both DISK", Maps.put(map, deep.get(7), 32, 1), HashPages.DISK);
        Check.same("DEPTH stays", map.look(2), 14);
    }

    private static void remove() {
        HashPages map = Maps.formatted(20, 4);
        Maps.put(map, Keys.of(1), 1, 10);
        Maps.put(map, Keys.of(2), 1, 20);
        Maps.put(map, Keys.of(3), 1, 30);
        Check.same("remove", Maps.remove(map, Keys.of(2)), HashPages.DONE);
        Maps.page("the others in order", map, 7, 0, 2, 0, 8, 1, 1, 1, 10, 1, 1, 3, 30);
        Check.same("the tape is empty", map.look(9), 0);
        Check.same("remove again", Maps.remove(map, Keys.of(2)), HashPages.NONE);
        Check.same("a longer key is another one", Maps.remove(map, Keys.of(1, 10)), HashPages.NONE);
        Check.same("nothing is done", map.look(6), 4);
        Check.same("the tape is empty after NONE", map.look(9), 0);
        Check.fails("remove of no bytes", IllegalArgumentException.class, map::remove);
        Maps.fill(map, 16, 1);
        Check.same("remove of 16 bytes", map.remove(), HashPages.NONE);
        Maps.fill(map, 17, 1);
        Check.fails("remove of 17 bytes", IllegalArgumentException.class, map::remove);
        Check.same("a bad remove empties the tape", map.look(9), 0);
        map.power(0);
        Check.same("NONE needs no write", Maps.remove(map, Keys.of(2)), HashPages.NONE);
        Check.same("remove without power", Maps.remove(map, Keys.of(1)), HashPages.DOWN);
        Check.same("DOWN empties the tape", map.look(9), 0);
        Maps.fill(map, 17, 1);
        Check.fails("remove while DOWN", IllegalStateException.class, map::remove);
        Check.same("remove while DOWN empties the tape", map.look(9), 0);
    }

    /** Records of 36 bytes: a pair merges with three of them (108), not with four (144). */
    private static void merge() {
        HashPages map = Maps.formatted(12, 3);
        List<List<Integer>> zeros = Keys.withPrefix(0, 1, 4);
        List<List<Integer>> ones = Keys.withPrefix(1, 1, 4);
        fillBucket(map, zeros);
        fillBucket(map, ones);
        Check.same("DEPTH is 1", map.look(2), 1);
        for (int i = 0; i < 4; i++) {
            Check.same("remove of a 0", Maps.remove(map, zeros.get(i)), HashPages.DONE);
            Check.same("DEPTH is still 1", map.look(2), 1);
        }
        int before = map.look(6);
        Check.same("remove of a 1", Maps.remove(map, ones.get(2)), HashPages.DONE);
        Check.same("a write, a merge, a halving", map.look(6), before + 1 + 6 + 6);
        Check.same("DEPTH is 0", map.look(2), 0);
        Check.same("the page of the 0", map.entry(0), 6);
        Check.same("its depth", map.bucket(6, 0), 0);
        Check.same("the records of both", map.bucket(6, 1), 3);
        int[] left = {0, 1, 3};
        for (int r = 0; r < 3; r++) {
            Check.same("in order", map.record(6, r, 0, 0), ones.get(left[r]).get(0));
        }
        Maps.page("HEAD", map, 0, 0, 5);
        Maps.page("DIRECTORY", map, 5, 6);
        Check.same("the other page is free", map.kind(7), 0);
        Check.same("what it has in it stays", map.byteOf(7, 1), 3);
    }

    /** 126 bytes merge, 127 do not; the records of the 0 come first. */
    private static void mergeEdge() {
        for (int extra = 0; extra < 2; extra++) {
            HashPages map = Maps.formatted(12, 3);
            List<List<Integer>> zeros = Keys.withPrefix(0, 1, 5);
            List<List<Integer>> ones = Keys.withPrefix(1, 1, 4);
            fillBucket(map, ones);
            fillBucket(map, zeros);
            Maps.remove(map, zeros.get(1));
            Maps.remove(map, zeros.get(2));
            Maps.remove(map, zeros.get(4));
            Maps.put(map, zeros.get(3), 14 + extra, 7);
            Maps.remove(map, ones.get(1));
            Check.same("five records are left, no merge", map.look(3), 2);
            Maps.remove(map, ones.get(0));
            Check.same("36 + 18 + 72 bytes: " + extra, map.look(3), extra == 0 ? 1 : 2);
            Check.same("DEPTH", map.look(2), extra);
            if (extra == 0) {
                Check.same("126 bytes", map.bucket(6, 2), 126);
                Check.same("first those of the 0", map.record(6, 0, 0, 0), zeros.get(0).get(0));
                Check.same("then", map.record(6, 1, 1, 0), 7);
                Check.same("then those of the 1", map.record(6, 2, 0, 0), ones.get(2).get(0));
            }
        }
    }

    /** Two keys' buckets at depth 9: two directory pages, each change and its order; then back again. */
    private static void manyDirectoryPages() {
        HashPages map = Maps.formatted(64, 8);
        List<List<Integer>> low = Keys.withPrefix(2, 9, 4);
        List<List<Integer>> high = Keys.withPrefix(3, 9, 4);
        fillBucket(map, low);
        fillBucket(map, high);
        Check.same("DEPTH is 9", map.look(2), 9);
        Check.same("two pages", map.byteOf(0, 1), 10);
        int second = map.byteOf(0, 2);
        Check.same("the second is the first free one then", second, 20);
        Check.same("the HEAD has no third", map.byteOf(0, 3), 0);
        Check.same("it is the DIRECTORY's", map.kind(second), 4);
        Check.same("entry 2", map.bucket(map.entry(2), 1), 4);
        Check.same("entry 3", map.bucket(map.entry(3), 0), 9);
        Check.same("entry 256", map.entry(256), map.byteOf(second, 0));
        Check.same("entry 511", map.entry(511), map.byteOf(second, 255));
        Check.same("entry 512", map.entry(512), -1);
        for (List<Integer> key : low) {
            Maps.remove(map, key);
        }
        Maps.remove(map, high.get(0));
        Check.same("all merged", map.look(3), 1);
        Check.same("DEPTH is 0", map.look(2), 0);
        Maps.page("HEAD", map, 0, 0, 10);
        Maps.page("DIRECTORY", map, 10, 11);
        Check.same("three records", map.look(5), 3);
        Check.same("the second page is free", map.kind(second), 0);
    }

    private static void get() {
        HashPages map = new HashPages();
        Maps.put(map, KEY, 3, 9);
        Maps.put(map, Keys.of(1, 1), 0, 0);
        Maps.put(map, Keys.of(2), 32, 200);
        Check.same("get", Maps.get(map, KEY), 3);
        Check.same("get empties the tape", map.look(9), 0);
        Check.same("get of an empty value", Maps.get(map, Keys.of(1, 1)), 0);
        Check.same("an empty answer", map.answer(0), -1);
        Check.same("get of 32", Maps.get(map, Keys.of(2)), 32);
        Check.same("the last byte", map.answer(31), 200);
        List<Integer> longest = Keys.of(1, 2, 3, 4, 5, 6, 7, 8, 9, 10, 11, 12, 13, 14, 15, 16);
        Maps.put(map, longest, 4, 40);
        Check.same("get of a key of 16 bytes", Maps.get(map, longest), 4);
        Check.same("its value", map.answer(3), 40);
        Check.same("get of none", Maps.get(map, Keys.of(1)), HashPages.NONE);
        Check.same("the answer is empty then", map.answer(0), -1);
        Maps.get(map, KEY);
        Check.same("get of no bytes", map.get(), HashPages.NONE);
        Check.same("the answer is empty then", map.answer(0), -1);
        Maps.get(map, KEY);
        Maps.fill(map, 17, 'k');
        Check.same("get of 17 bytes", map.get(), HashPages.NONE);
        Check.same("the answer is empty then", map.answer(0), -1);
        Check.same("the tape is empty then", map.look(9), 0);
        Maps.get(map, KEY);
        map.power(0);
        Check.same("put without power", Maps.put(map, KEY, 1, 1), HashPages.DOWN);
        Maps.feed(map, Keys.of(2));
        Check.fails("get while DOWN", IllegalStateException.class, map::get);
        Check.same("the tape is empty by the exception", map.look(9), 0);
        Check.same("the answer is as before", map.answer(2), 9);
    }

    private static void answer() {
        HashPages map = new HashPages();
        Check.same("no answer yet", map.answer(0), -1);
        Maps.put(map, KEY, 2, 255);
        Maps.get(map, KEY);
        int[][] due = {{0, 255}, {1, 255}, {2, -1}, {-1, -1}, {32, -1}, {Integer.MAX_VALUE, -1},
            {Integer.MIN_VALUE, -1}};
        for (int[] call : due) {
            Check.same("answer(" + call[0] + ")", map.answer(call[0]), call[1]);
        }
        Maps.put(map, KEY, 2, 1);
        Maps.remove(map, KEY);
        map.recover(-1);
        Check.same("put, remove and recover leave the answer", map.answer(1), 255);
        map.format(8, 2);
        Check.same("format empties it", map.answer(0), -1);
    }

    private static void power() {
        HashPages map = new HashPages();
        map.power(2);
        Check.same("two allowed", map.look(8), 2);
        Check.same("first", Maps.put(map, KEY, 1, 1), HashPages.DONE);
        Check.same("one allowed", map.look(8), 1);
        Check.same("second", Maps.put(map, KEY, 1, 2), HashPages.DONE);
        Check.same("none allowed, and not DOWN yet", map.look(8) * 10 + map.look(7), 0);
        Check.same("reading needs no power", Maps.get(map, KEY), 1);
        Check.same("third", Maps.put(map, KEY, 1, 3), HashPages.DOWN);
        Check.same("DOWN", map.look(7), 1);
        Check.same("a write that is not done does not count", map.look(6), 2);
        Check.same("none allowed", map.look(8), 0);
        Check.same("the value is the old one", map.record(11, 0, 1, 0), 2);
        for (int n : new int[] {-2, -1, 5}) {
            Check.fails("power(" + n + ") while DOWN", IllegalStateException.class, () -> {
                map.power(n);
                return 0;
            });
        }
        map.recover(7);
        for (int n : new int[] {-2, Integer.MIN_VALUE}) {
            Check.fails("power(" + n + ")", IllegalArgumentException.class, () -> {
                map.power(n);
                return 0;
            });
        }
        Check.same("a bad power leaves what is allowed", map.look(8), 7);
        map.power(Integer.MAX_VALUE);
        Check.same("all that an int can tell", map.look(8), Integer.MAX_VALUE);
        map.power(-1);
        Check.same("any number", map.look(8), -1);
        Check.same("put with any number", Maps.put(map, KEY, 1, 3), HashPages.DONE);
        Check.same("still any number", map.look(8), -1);
    }

    private static void recover() {
        HashPages map = Maps.formatted(12, 3);
        fillBucket(map, Keys.withPrefix(0, 1, 4));
        fillBucket(map, Keys.withPrefix(1, 1, 3));
        List<Integer> more = Keys.withPrefix(1, 1, 4).get(3);
        map.power(6 + 4);
        Check.same("a doubling, and a split's images and journal", Maps.put(map, more, 32, 1), HashPages.DOWN);
        Maps.page("the JOURNAL tells of three", map, 1, 3, 6, 7, 5);
        Check.same("look tells it", map.look(10), 3);
        for (int n : new int[] {-2, Integer.MIN_VALUE}) {
            Check.fails("recover(" + n + ")", IllegalArgumentException.class, () -> map.recover(n));
        }
        Check.same("a bad recover leaves it DOWN", map.look(7), 1);
        int writes = map.look(6);
        Check.same("recover(0)", map.recover(0), HashPages.DOWN);
        Check.same("recover(3)", map.recover(3), HashPages.DOWN);
        Check.same("three writes", map.look(6), writes + 3);
        Check.same("the bucket is split", map.bucket(6, 1) * 10 + map.bucket(7, 1), 43);
        Check.same("the JOURNAL is still there", map.look(10), 3);
        Check.same("recover(4)", map.recover(4), HashPages.DONE);
        Check.same("all of them again, and the JOURNAL", map.look(6), writes + 7);
        Check.same("none allowed", map.look(8), 0);
        Check.same("not DOWN", map.look(7), 0);
        Maps.page("the JOURNAL is empty", map, 1);
        Check.same("recover of a disk that is not DOWN", map.recover(1), HashPages.DONE);
        Check.same("it writes nothing", map.look(6), writes + 7);
        Check.same("one allowed", map.look(8), 1);
        Check.same("the put itself was not done", Maps.get(map, more), HashPages.NONE);
        Check.same("put", Maps.put(map, more, 32, 1), HashPages.DONE);
        map.feed(5, 1, 1);
        Check.same("recover(NONE)", map.recover(-1), HashPages.DONE);
        Check.same("the tape stays", map.look(9), 5);
        Check.same("any number", map.look(8), -1);
    }

    public static void main(String[] args) {
        newObject();
        format();
        formatForgets();
        feed();
        putAndReplace();
        putThrows();
        doubleAndSplit();
        refusedForLog();
        refusedForDisk();
        refusedAlike();
        oneOtherHash();
        splitAtPageEnd();
        bothLackingIsDisk();
        remove();
        merge();
        mergeEdge();
        manyDirectoryPages();
        get();
        answer();
        power();
        recover();
        Check.end();
    }
}
