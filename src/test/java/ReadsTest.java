import java.util.List;

/** Promises 10, 11 and 13 to 16: what can be read, with the power and without it. */
public final class ReadsTest {
    private static final int[] FAR = {Integer.MIN_VALUE, Integer.MIN_VALUE + 1, -65536, -256, -2, -1, 256, 257, 512, 1000,
        65536, Integer.MAX_VALUE - 1, Integer.MAX_VALUE};

    /** Page 6 is the directory, 7 the bucket with two records: (1 2: 9 9 9) and (3: nothing). */
    private static Subject small() {
        Subject map = Subject.formatted(20, 4);
        map.put(Keys.of(1, 2), 3, 9);
        map.put(Keys.of(3), 0, 0);
        return map;
    }

    /** The same with the power gone. */
    private static Subject smallAndDown() {
        Subject map = small();
        map.power(0);
        Check.same("put without power", map.put(Keys.of(4), 1, 1), HashPages.DOWN);
        return map;
    }

    private static void byteOf(String when, Subject map) {
        Check.sentence("promise 10" + when, "Byte i of a PAGE (0 to 255)");
        map.pageIs("the HEAD", 0, 0, 6);
        map.pageIs("the DIRECTORY", 6, 7);
        map.pageIs("the BUCKET", 7, 0, 2, 0, 10, 2, 3, 1, 2, 9, 9, 9, 1, 0, 3);
        map.pageIs("the last PAGE", 19);
        Check.sentence("promise 10" + when, "NONE if there is none such");
        for (int page = 0; page < 20; page++) {
            Check.holds("byteOf(" + page + ", 0) is one", map.byteOf(page, 0) >= 0);
            Check.same("byteOf(" + page + ", 255)", map.byteOf(page, 255), 0);
            Check.same("byteOf(" + page + ", -1)", map.byteOf(page, -1), -1);
            Check.same("byteOf(" + page + ", 256)", map.byteOf(page, 256), -1);
        }
        for (int i : new int[] {0, 3, 255}) {
            Check.same("byteOf(-1, " + i + ")", map.byteOf(-1, i), -1);
            Check.same("byteOf(20, " + i + ")", map.byteOf(20, i), -1);
            Check.same("byteOf(255, " + i + ")", map.byteOf(255, i), -1);
        }
        for (int far : FAR) {
            Check.same("byteOf(7, " + far + ")", map.byteOf(7, far), -1);
            Check.same("byteOf(" + far + ", 0)", map.byteOf(far, 0), -1);
            Check.same("byteOf(" + far + ", " + far + ")", map.byteOf(far, far), -1);
        }
    }

    private static void byteOfLargest() {
        Check.sentence("promise 10", "Byte i of a PAGE (0 to 255): the largest disk, and the largest byte");
        Subject map = Subject.formatted(255, 100);
        Check.same("byteOf(254, 255)", map.byteOf(254, 255), 0);
        Check.same("byteOf(255, 0)", map.byteOf(255, 0), -1);
        map.put(Keys.of(254, 128, 127), 1, 255);
        Check.same("254", map.byteOf(103, 6), 254);
        Check.same("128", map.byteOf(103, 7), 128);
        Check.same("127", map.byteOf(103, 8), 127);
        Check.same("255", map.byteOf(103, 9), 255);
        map.format(8, 2);
        Check.same("byteOf(7, 255) of the smallest disk", map.byteOf(7, 255), 0);
        Check.same("byteOf(8, 0) of the smallest disk", map.byteOf(8, 0), -1);
        Check.same("byteOf(103, 6) of the smallest disk", map.byteOf(103, 6), -1);
    }

    private static void kind(String when, Subject map) {
        Check.sentence("promise 11" + when, "1 the HEAD, 2 the JOURNAL, 3 for an IMAGE, 4 the DIRECTORY's, 5 a BUCKET, else 0 "
            + "FREE");
        int[] due = {1, 2, 3, 3, 3, 3, 4, 5, 0, 0, 0, 0, 0, 0, 0, 0, 0, 0, 0, 0};
        for (int page = 0; page < due.length; page++) {
            Check.same("kind(" + page + ")", map.kind(page), due[page]);
        }
        Check.sentence("promise 11" + when, "NONE if there is none such.");
        Check.same("kind(-1)", map.kind(-1), -1);
        Check.same("kind(19)", map.kind(19), 0);
        Check.same("kind(20)", map.kind(20), -1);
        Check.same("kind(255)", map.kind(255), -1);
        for (int far : FAR) {
            Check.same("kind(" + far + ")", map.kind(far), -1);
        }
    }

    private static void kindByDepth() {
        Check.sentence("promise 11", "4 the DIRECTORY's (the HEAD tells it, among as many as DEPTH needs), 5 a BUCKET (an "
            + "ENTRY tells it), else 0 FREE");
        Subject map = new Subject();
        List<List<Integer>> low = Keys.twos(2, 9, 4);
        List<List<Integer>> high = Keys.twos(3, 9, 4);
        map.putAll(low);
        map.putAll(high);
        Check.same("DEPTH", map.look(2), 9);
        map.pageIs("the HEAD", 0, 9, 10, 20);
        for (int page = 10; page <= 22; page++) {
            Check.same("kind(" + page + ")", map.kind(page), page == 10 || page == 20 ? 4 : page == 22 ? 0 : 5);
        }
        map.removeAll(low);
        map.removeAll(high.subList(0, 1));
        Check.same("DEPTH", map.look(2), 0);
        Check.holds("page 20 has its ENTRIES still", map.byteOf(20, 255) > 0);
        for (int page = 10; page <= 22; page++) {
            Check.same("kind(" + page + ") then", map.kind(page), page == 10 ? 4 : page == 11 ? 5 : 0);
        }
        Check.holds("a FREE PAGE has its RECORDS still", map.byteOf(21, 1) > 0);
        Check.same("bucket() of it", map.bucket(21, 1), -1);
        Check.same("record() of it", map.record(21, 0, 0, 0), -1);
        Check.same("RECORDS of PAGES of kind 5", map.look(5), 3);
    }

    /** DEPTH is 8, and page 8 is free: byte 0 of the HEAD is no ENTRY, though it tells an 8. */
    private static void headHasNoEntries() {
        Check.sentence("promise 11", "5 a BUCKET (an ENTRY tells it), else 0 FREE (the HEAD's bytes are no ENTRIES)");
        Subject map = Subject.formatted(40, 3);
        map.putAll(Keys.twos(2, 2, 4));
        map.putAll(Keys.twos(3, 2, 4));
        Check.same("the 11", map.entry(3), 8);
        map.putAll(Keys.twos(0, 8, 4));
        map.putAll(Keys.twos(1, 8, 4));
        Check.same("page 8 is a BUCKET", map.kind(8), 5);
        map.removeAll(Keys.twos(3, 2, 4));
        map.removeAll(Keys.twos(2, 2, 1));
        map.pageIs("the HEAD", 0, 8, 5);
        Check.same("page 8 is FREE", map.kind(8), 0);
        Check.same("BUCKETS", map.look(3), 9);
        Check.same("PAGES FREE", map.look(4), 40 - 6 - 9);
        Check.same("bucket(8, 0)", map.bucket(8, 0), -1);
    }

    private static void entry(String when, Subject map) {
        Check.sentence("promise 13" + when, "The PAGE that ENTRY i of the DIRECTORY tells; NONE if there is none such.");
        Check.same("entry(-1)", map.entry(-1), -1);
        Check.same("entry(0)", map.entry(0), 7);
        Check.same("entry(1)", map.entry(1), -1);
        Check.same("entry(2)", map.entry(2), -1);
        Check.same("entry(255)", map.entry(255), -1);
        for (int far : FAR) {
            Check.same("entry(" + far + ")", map.entry(far), -1);
        }
    }

    private static void entryByDepth() {
        Check.sentence("promise 13", "NONE if there is none such (2 to the DEPTH ENTRIES)");
        for (int depth = 1; depth <= 10; depth++) {
            Subject map = Subject.formatted(60, 5);
            map.putAll(Keys.twos(0, depth, 4));
            map.putAll(Keys.twos(1, depth, 4));
            Check.same("DEPTH", map.look(2), depth);
            int entries = 1 << depth;
            Check.same("the first of " + entries, map.bucket(map.entry(0), 0), depth);
            Check.same("the second of " + entries, map.bucket(map.entry(1), 0), depth);
            Check.same("the last of " + entries, map.bucket(map.entry(entries - 1), 0), 1);
            Check.same("behind the last of " + entries, map.entry(entries), -1);
            Check.same("ahead of the first of " + entries, map.entry(-1), -1);
        }
    }

    private static void bucket(String when, Subject map) {
        Check.sentence("promise 14" + when, "Of the BUCKET in a PAGE: 0 its depth, 1 its RECORDS, 2 their bytes.");
        Check.same("its depth", map.bucket(7, 0), 0);
        Check.same("its RECORDS", map.bucket(7, 1), 2);
        Check.same("their bytes", map.bucket(7, 2), 10);
        Check.sentence("promise 14" + when, "NONE, if that is none of kind 5");
        for (int page = -1; page <= 20; page++) {
            for (int what = 0; what <= 2 && page != 7; what++) {
                Check.same("bucket(" + page + ", " + what + ")", map.bucket(page, what), -1);
            }
        }
        for (int far : FAR) {
            for (int what = 0; what <= 2; what++) {
                Check.same("bucket(" + far + ", " + what + ")", map.bucket(far, what), -1);
            }
        }
        Check.sentence("promise 14" + when, "NONE, .. or for another what.");
        Check.same("bucket(7, -1)", map.bucket(7, -1), -1);
        Check.same("bucket(7, 3)", map.bucket(7, 3), -1);
        Check.same("bucket(7, 4)", map.bucket(7, 4), -1);
        for (int far : FAR) {
            Check.same("bucket(7, " + far + ")", map.bucket(7, far), -1);
            Check.same("bucket(" + far + ", " + far + ")", map.bucket(far, far), -1);
        }
    }

    private static void bucketByDepth() {
        Check.sentence("promise 14", "0 its depth, 1 its RECORDS, 2 their bytes (empty, full, deep)");
        Subject map = Subject.formatted(20, 3);
        int[][] due = {{6, 0, 0, 0}};
        buckets(map, due);
        map.putAll(Keys.twos(0, 1, 7));
        buckets(map, new int[][] {{6, 0, 7, 252}});
        map.put(Keys.twos(1, 1, 1).get(0), 0, 0);
        buckets(map, new int[][] {{6, 1, 7, 252}, {7, 1, 1, 4}});
        Subject many = new Subject();
        for (int i = 0; i < 84; i++) {
            many.feed(1, i, 0);
            Check.same("the smallest RECORD", many.put(1), HashPages.DONE);
        }
        buckets(many, new int[][] {{11, 0, 84, 252}});
        Check.same("the last RECORD's byte", many.record(11, 83, 0, 0), 83);
        Check.same("none behind it", many.record(11, 84, 0, 0), -1);
    }

    private static void buckets(Subject map, int[][] due) {
        for (int[] row : due) {
            for (int what = 0; what <= 2; what++) {
                Check.same("bucket(" + row[0] + ", " + what + ")", map.bucket(row[0], what), row[1 + what]);
            }
        }
    }

    private static void record(String when, Subject map) {
        Check.sentence("promise 15" + when, "Byte j of the key (what 0) or value (1) of RECORD r of the BUCKET in a PAGE of "
            + "kind 5");
        records(map, new int[][] {{0, 0, 0, 1}, {0, 0, 1, 2}, {0, 1, 0, 9}, {0, 1, 1, 9}, {0, 1, 2, 9}, {1, 0, 0, 3}});
        Check.sentence("promise 15" + when, "NONE if there is none such");
        records(map, new int[][] {{0, 0, -1, -1}, {0, 0, 2, -1}, {0, 0, 3, -1}, {0, 1, -1, -1}, {0, 1, 3, -1},
            {0, 1, 4, -1}, {1, 0, -1, -1}, {1, 0, 1, -1}, {1, 1, 0, -1}, {1, 1, -1, -1}, {-1, 0, 0, -1}, {-1, 1, 0, -1},
            {2, 0, 0, -1}, {2, 1, 0, -1}, {3, 0, 0, -1}});
        for (int page = -1; page <= 20; page++) {
            for (int what = 0; what <= 1 && page != 7; what++) {
                Check.same("record(" + page + ", 0, " + what + ", 0)", map.record(page, 0, what, 0), -1);
            }
        }
        for (int far : FAR) {
            for (int what = 0; what <= 1; what++) {
                Check.same("record(" + far + ", 0, " + what + ", 0)", map.record(far, 0, what, 0), -1);
                Check.same("record(7, " + far + ", " + what + ", 0)", map.record(7, far, what, 0), -1);
                Check.same("record(7, 0, " + what + ", " + far + ")", map.record(7, 0, what, far), -1);
            }
            Check.same("all of it far", map.record(far, far, far, far), -1);
        }
        Check.sentence("promise 15" + when, "NONE .. for another what");
        for (int what : new int[] {-1, 2, 3}) {
            for (int j = 0; j < 3; j++) {
                Check.same("record(7, 0, " + what + ", " + j + ")", map.record(7, 0, what, j), -1);
            }
        }
        for (int far : FAR) {
            Check.same("record(7, 0, " + far + ", 0)", map.record(7, 0, far, 0), -1);
        }
    }

    private static void records(Subject map, int[][] due) {
        for (int[] call : due) {
            Check.same("record(7, " + call[0] + ", " + call[1] + ", " + call[2] + ")",
                map.record(7, call[0], call[1], call[2]), call[3]);
        }
    }

    private static void recordAtItsLargest() {
        Check.sentence("promise 15", "NONE if there is none such (a key of 16 bytes, a value of 32)");
        Subject map = new Subject();
        map.fill(16, 200);
        map.fill(32, 255);
        Check.same("put", map.put(16), HashPages.DONE);
        map.put(Keys.of(5), 1, 6);
        int[][] due = {{0, 0, 200}, {0, 15, 200}, {0, 16, -1}, {1, 0, 255}, {1, 31, 255}, {1, 32, -1}};
        for (int[] call : due) {
            Check.same("record(11, 0, " + call[0] + ", " + call[1] + ")", map.record(11, 0, call[0], call[1]), call[2]);
        }
        Check.same("the RECORD behind it", map.record(11, 1, 0, 0) * 10 + map.record(11, 1, 1, 0), 56);
    }

    private static void looks(String when, Subject map, int... due) {
        for (int what = 0; what < due.length; what++) {
            Check.same(when + "look(" + what + ")", map.look(what), due[what]);
        }
    }

    private static void look() {
        Check.sentence("promise 16", "0 PAGES, 1 LOG, 2 DEPTH, 3 PAGES of kind 5, 4 of kind 0, 5 the RECORDS of those of kind "
            + "5 together, 6 WRITES done since format(), 7 whether the disk is DOWN (1, 0), 8 WRITES that the power allows "
            + "still, 9 bytes of the tape, 10 IMAGES that the JOURNAL tells of");
        looks("new: ", new Subject(), 64, 8, 0, 1, 52, 0, 0, 0, -1, 0, 0);
        looks("the smallest: ", Subject.formatted(8, 4), 8, 4, 0, 1, 0, 0, 0, 0, -1, 0, 0);
        looks("the largest: ", Subject.formatted(255, 100), 255, 100, 0, 1, 151, 0, 0, 0, -1, 0, 0);
        Subject map = small();
        map.power(5);
        map.feed(7, 1, 1);
        looks("small: ", map, 20, 4, 0, 1, 12, 2, 2, 0, 5, 7, 0);
        looks("small and DOWN: ", smallAndDown(), 20, 4, 0, 1, 12, 2, 2, 1, 0, 0, 0);
        Subject split = Subject.formatted(12, 3);
        split.putAll(Keys.twos(0, 1, 4));
        split.putAll(Keys.twos(1, 1, 4));
        looks("split: ", split, 12, 3, 1, 2, 4, 8, 22, 0, -1, 0, 0);
        Check.sentence("promise 16", "NONE for another what.");
        for (Subject any : new Subject[] {map, split, smallAndDown()}) {
            for (int what : new int[] {-1, 11, 12, 255}) {
                Check.same("look(" + what + ")", any.look(what), -1);
            }
            for (int far : FAR) {
                Check.same("look(" + far + ")", any.look(far), -1);
            }
        }
    }

    private static void lookAtThePower() {
        Check.sentence("promise 16", "7 whether the disk is DOWN (1, 0), 8 WRITES that the power allows still (NONE: any "
            + "number)");
        Subject map = small();
        Check.same("any number", map.look(8) * 10 + map.look(7), -10);
        map.power(1);
        Check.same("one", map.look(8) * 10 + map.look(7), 10);
        map.put(Keys.of(4), 1, 1);
        Check.same("none, and not DOWN", map.look(8) * 10 + map.look(7), 0);
        map.put(Keys.of(4), 1, 1);
        Check.same("none, and DOWN", map.look(8) * 10 + map.look(7), 1);
        map.recover(2);
        Check.same("two", map.look(8) * 10 + map.look(7), 20);
        map.recover(-1);
        Check.same("any number", map.look(8) * 10 + map.look(7), -10);
    }

    /** A split that the power cuts at each write of its third part: what is read are the bytes that the disk has. */
    private static void whileHalfDone() {
        Check.sentence("promise 11", "What a PAGE is by the bytes that the disk has now");
        List<List<Integer>> zeros = Keys.twos(0, 1, 4);
        List<List<Integer>> ones = Keys.twos(1, 1, 4);
        for (int writes = 0; writes <= 3; writes++) {
            Subject map = Subject.formatted(12, 3);
            map.putAll(zeros);
            map.putAll(ones.subList(0, 3));
            map.power(6 + 4 + writes);
            Check.same("put", map.put(ones.get(3), 32, 1), HashPages.DOWN);
            String when = "with " + writes + " pages of the split in place: ";
            boolean told = writes == 3;
            looks(when, map, 12, 3, 1, told ? 2 : 1, told ? 4 : 5, writes == 0 || told ? 7 : 4, 7 + 6 + 4 + writes, 1, 0, 0,
                3);
            Check.same(when + "entry 0", map.entry(0), 6);
            Check.same(when + "entry 1", map.entry(1), told ? 7 : 6);
            Check.same(when + "kind of the new bucket", map.kind(7), told ? 5 : 0);
            Check.same(when + "depth", map.bucket(6, 0), writes < 1 ? 0 : 1);
            Check.same(when + "the new bucket", map.bucket(7, 1), told ? 3 : -1);
            Check.same(when + "a record of the new bucket", map.record(7, 0, 0, 0), told ? ones.get(0).get(0) : -1);
            Check.same(when + "its bytes", map.byteOf(7, 1), writes < 2 ? 0 : 3);
        }
    }

    /** A doubling whose directory is written and whose head is not: the two entries that count tell one bucket. */
    private static void whileHalfDoubled() {
        Check.sentence("promise 11", "5 a BUCKET (an ENTRY tells it): behind the last ENTRY that DEPTH has there is none");
        Subject map = Subject.formatted(12, 3);
        map.putAll(Keys.twos(0, 2, 4));
        map.putAll(Keys.twos(2, 2, 4));
        map.putAll(Keys.twos(1, 2, 3));
        looks("ahead: ", map, 12, 3, 1, 2, 4, 11);
        map.power(3 + 1);
        Check.same("put", map.put(Keys.twos(1, 2, 4).get(3), 32, 1), HashPages.DOWN);
        map.pageIs("the DIRECTORY is doubled", 5, 6, 6, 7, 7);
        map.pageIs("the HEAD is not", 0, 1, 5);
        Check.same("entry(1)", map.entry(1), 6);
        Check.same("entry(2)", map.entry(2), -1);
        Check.same("kind(7)", map.kind(7), 0);
        Check.same("bucket(7, 1)", map.bucket(7, 1), -1);
        Check.same("record(7, 0, 0, 0)", map.record(7, 0, 0, 0), -1);
        looks("cut: ", map, 12, 3, 1, 1, 5, 7);
        Check.same("recover", map.recover(-1), HashPages.DONE);
        Check.same("kind(7)", map.kind(7), 5);
        looks("then: ", map, 12, 3, 2, 2, 4, 11);
    }

    /** A merge whose bucket is written and whose directory is not: the records of one page count twice. */
    private static void whileHalfMerged() {
        Check.sentence("promise 16", "3 PAGES of kind 5 .. 5 the RECORDS of those of kind 5 together (while DOWN)");
        List<List<Integer>> zeros = Keys.twos(0, 1, 4);
        List<List<Integer>> ones = Keys.twos(1, 1, 4);
        Subject map = Subject.formatted(12, 3);
        map.putAll(zeros);
        map.putAll(ones);
        map.removeAll(zeros.subList(0, 3));
        map.removeAll(ones.subList(0, 1));
        map.power(1 + 3 + 1);
        Check.same("remove", map.remove(ones.get(1)), HashPages.DOWN);
        Check.same("BUCKETS", map.look(3), 2);
        Check.same("RECORDS", map.look(5), 3 + 2);
        Check.same("depths", map.bucket(6, 0) * 10 + map.bucket(7, 0), 1);
        Check.same("recover", map.recover(-1), HashPages.DONE);
        Check.same("BUCKETS", map.look(3), 1);
        Check.same("RECORDS", map.look(5), 3);
    }

    /** A halving whose directory is written and whose head is not: an entry tells page 0, which stays the head. */
    private static void entryOfNoBucket() {
        Check.sentence("promise 11", "the first of these that holds: 1 the HEAD");
        Subject map = Subject.formatted(12, 2);
        List<List<Integer>> keys = Keys.twos(0, 1, 7);
        map.putAll(keys);
        Check.same("a doubling without a split", map.put(Keys.twos(1, 1, 1).get(0), 1, 1), HashPages.LOG);
        map.power(1 + 3 + 1);
        Check.same("the halving is cut", map.remove(keys.get(0)), HashPages.DOWN);
        Check.same("DEPTH", map.look(2), 1);
        Check.same("entry 0", map.entry(0), 5);
        Check.same("entry 1", map.entry(1), 0);
        Check.same("page 0 is the HEAD", map.kind(0), 1);
        Check.same("page 0 is no bucket", map.bucket(0, 0), -1);
        Check.same("page 0 has no record", map.record(0, 0, 0, 0), -1);
        Check.same("one bucket", map.look(3), 1);
        Check.same("records", map.look(5), 6);
        Check.same("recover", map.recover(-1), HashPages.DONE);
        Check.same("DEPTH", map.look(2), 0);
        Check.same("entry 1", map.entry(1), -1);
    }

    public static void main(String[] args) {
        for (int down = 0; down < 2; down++) {
            String when = down == 0 ? "" : ", while DOWN";
            byteOf(when, down == 0 ? small() : smallAndDown());
            kind(when, down == 0 ? small() : smallAndDown());
            entry(when, down == 0 ? small() : smallAndDown());
            bucket(when, down == 0 ? small() : smallAndDown());
            record(when, down == 0 ? small() : smallAndDown());
        }
        byteOfLargest();
        kindByDepth();
        headHasNoEntries();
        entryByDepth();
        bucketByDepth();
        recordAtItsLargest();
        look();
        lookAtThePower();
        whileHalfDone();
        whileHalfDoubled();
        whileHalfMerged();
        entryOfNoBucket();
        Check.end();
    }
}
