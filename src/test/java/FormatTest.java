import java.util.List;

/** Promises 1 and 2: a new object, and format. */
public final class FormatTest {
    private static final int[] FAR = {Integer.MIN_VALUE, Integer.MIN_VALUE + 1, -256, -1, 0, 1000, 65536,
        Integer.MAX_VALUE - 4, Integer.MAX_VALUE - 3, Integer.MAX_VALUE};

    private static void refused(int pages, int log) {
        Subject map = new Subject();
        Check.fails("format(" + pages + ", " + log + ")", IllegalArgumentException.class, () -> {
            map.format(pages, log);
            return 0;
        });
        Check.same("PAGES behind format(" + pages + ", " + log + ")", map.look(0), 64);
        Check.same("LOG behind format(" + pages + ", " + log + ")", map.look(1), 8);
    }

    private static void taken(int pages, int log) {
        Subject map = Subject.formatted(pages, log);
        Check.same("PAGES of format(" + pages + ", " + log + ")", map.look(0), pages);
        Check.same("LOG of format(" + pages + ", " + log + ")", map.look(1), log);
        Check.same("PAGES FREE of format(" + pages + ", " + log + ")", map.look(4), pages - log - 4);
    }

    /** What can be read of a new disk, its every byte too. */
    private static void isNew(String what, Subject map, int pages, int log) {
        int[] looks = {pages, log, 0, 1, pages - log - 4, 0, 0, 0, -1};
        for (int i = 0; i < looks.length; i++) {
            Check.same(what + ": look(" + i + ")", map.look(i), looks[i]);
        }
        Check.same(what + ": IMAGES told of", map.look(10), 0);
        Check.same(what + ": ENTRY 0", map.entry(0), log + 3);
        Check.same(what + ": ENTRY 1", map.entry(1), -1);
        Check.same(what + ": the BUCKET's depth", map.bucket(log + 3, 0), 0);
        Check.same(what + ": the BUCKET's RECORDS", map.bucket(log + 3, 1), 0);
        Check.same(what + ": the ANSWER", map.answer(0), -1);
        for (int page = 0; page < pages; page++) {
            map.pageIs(what, page, page == log + 2 ? log + 3 : 0, page == 0 ? log + 2 : 0);
        }
        Check.same(what + ": no PAGE more", map.byteOf(pages, 0), -1);
    }

    private static void newObject() {
        Check.sentence("promise 1", "As format(64, 8).");
        isNew("a new object", new Subject(), 64, 8);
        Check.sentence("promise 1", "An empty tape, an empty ANSWER.");
        Subject map = new Subject();
        Check.same("bytes of the tape", map.look(9), 0);
        Check.same("hash of the tape", map.hash(), -1);
        Check.same("byte 0 of the ANSWER", map.answer(0), -1);
        Check.same("the first byte fed", map.feed(1, 5, 5), 1);
    }

    private static void pagesOf8To255() {
        Check.sentence("promise 2", "IllegalArgumentException: pages is not 8 to 255");
        refused(7, 2);
        taken(8, 2);
        taken(9, 2);
        taken(254, 2);
        taken(255, 2);
        refused(256, 2);
        for (int far : FAR) {
            refused(far, 2);
        }
    }

    private static void logOf2To100() {
        Check.sentence("promise 2", "IllegalArgumentException: .. log not 2 to 100");
        refused(20, 1);
        taken(20, 2);
        taken(255, 99);
        taken(255, 100);
        refused(255, 101);
        refused(8, 1);
        for (int far : FAR) {
            refused(255, far);
            refused(8, far);
        }
    }

    private static void pagesOfLogAnd4() {
        Check.sentence("promise 2", "IllegalArgumentException: .. or pages is below LOG + 4");
        refused(8, 5);
        taken(8, 4);
        taken(9, 5);
        refused(9, 6);
        refused(53, 50);
        taken(54, 50);
        refused(103, 100);
        taken(104, 100);
        refused(8, 100);
        for (int far : FAR) {
            refused(far, far);
        }
    }

    private static void newDisk() {
        Check.sentence("promise 2", "A new disk of so many PAGES, LOG of them for IMAGES");
        int[][] disks = {{8, 2}, {8, 4}, {20, 4}, {104, 100}, {255, 2}, {255, 100}};
        for (int[] disk : disks) {
            int log = disk[1];
            Subject map = Subject.formatted(disk[0], log);
            for (int page = 0; page < disk[0]; page++) {
                int due = page == 0 ? 1 : page == 1 ? 2 : page < 2 + log ? 3 : page == log + 2 ? 4
                    : page == log + 3 ? 5 : 0;
                Check.same("kind(" + page + ") of format(" + disk[0] + ", " + log + ")", map.kind(page), due);
            }
            Check.same("the PAGE behind the last", map.kind(disk[0]), -1);
        }
    }

    private static void anyNumberOfWrites() {
        Check.sentence("promise 2", "the power allows any number of WRITES, none was done");
        Subject map = new Subject();
        map.power(3);
        map.put(Keys.of(1), 1, 1);
        Check.same("one WRITE, two allowed", map.look(6) * 10 + map.look(8), 12);
        map.format(20, 4);
        Check.same("WRITES done", map.look(6), 0);
        Check.same("WRITES allowed", map.look(8), -1);
        map.power(0);
        Check.same("put without power", map.put(Keys.of(1), 1, 1), HashPages.DOWN);
        map.format(20, 4);
        Check.same("not DOWN", map.look(7), 0);
        Check.same("WRITES allowed behind DOWN", map.look(8), -1);
        for (int i = 1; i <= 5; i++) {
            Check.same("put", map.put(Keys.of(i), 1, 1), HashPages.DONE);
        }
        Check.same("WRITES done since", map.look(6), 5);
    }

    private static void allBytesAre0But() {
        Check.sentence("promise 2", "All bytes are 0 but: DEPTH is 0, the DIRECTORY is PAGE LOG + 2, its ENTRY tells the "
            + "BUCKET in PAGE LOG + 3, of depth 0, without RECORDS.");
        int[][] disks = {{8, 2}, {8, 4}, {30, 3}, {104, 100}, {255, 100}};
        for (int[] disk : disks) {
            Subject map = used();
            map.format(disk[0], disk[1]);
            isNew("format(" + disk[0] + ", " + disk[1] + ") of a used disk", map, disk[0], disk[1]);
        }
        Subject twice = used();
        twice.format(8, 2);
        twice.format(40, 3);
        isNew("a small disk, then a larger one", twice, 40, 3);
    }

    /** The largest disk with no page free: its last page is a bucket, and so are most of the others. */
    private static void everyPageWasUsed() {
        Check.sentence("promise 2", "All bytes are 0 but .. (of a disk whose last PAGE was a BUCKET)");
        Subject map = Subject.formatted(255, 100);
        for (int chain = 0; chain < 8 && map.look(4) > 0; chain++) {
            for (int end = 0; end < 2; end++) {
                for (List<Integer> key : Keys.withPrefix((chain << 11) + end, 14, 4)) {
                    map.put(key, 32, 255);
                }
            }
        }
        Check.same("no PAGE is FREE", map.look(4), 0);
        Check.same("the last PAGE is a BUCKET", map.kind(254), 5);
        Check.holds("its depth is not 0", map.byteOf(254, 0) > 0);
        map.format(255, 100);
        isNew("format(255, 100) of a full disk", map, 255, 100);
    }

    /** Images, a journal that tells of them, a directory of two pages, buckets, and the power gone. */
    private static Subject used() {
        Subject map = Subject.formatted(40, 3);
        List<List<Integer>> low = Keys.twos(2, 9, 4);
        List<List<Integer>> high = Keys.twos(3, 9, 4);
        map.putAll(low);
        map.putAll(high);
        map.removeAll(low);
        map.power(1 + 2 + 1);
        Check.same("a merge is cut", map.remove(high.get(0)), HashPages.DOWN);
        Check.same("IMAGES told of", map.look(10), 2);
        return map;
    }

    private static void answerAndTape() {
        Check.sentence("promise 2", "The ANSWER is empty; the tape stays.");
        Subject map = new Subject();
        map.put(Keys.of(1), 32, 7);
        Check.same("get", map.get(Keys.of(1)), 32);
        map.feed(Keys.of(11, 12, 13, 14, 15));
        int hash = map.hash();
        map.format(20, 4);
        for (int i = 0; i < 32; i++) {
            Check.same("answer(" + i + ")", map.answer(i), -1);
        }
        Check.same("bytes of the tape", map.look(9), 5);
        Check.same("hash of the tape", map.hash(), hash);
        Check.same("put of that tape", map.put(2), HashPages.DONE);
        map.pageIs("its RECORD", 7, 0, 1, 0, 7, 2, 3, 11, 12, 13, 14, 15);
        map.fill(48, 1);
        map.format(20, 4);
        Check.same("bytes of a full tape", map.look(9), 48);
    }

    public static void main(String[] args) {
        newObject();
        pagesOf8To255();
        logOf2To100();
        pagesOfLogAnd4();
        newDisk();
        anyNumberOfWrites();
        allBytesAre0But();
        everyPageWasUsed();
        answerAndTape();
        Check.end();
    }
}
