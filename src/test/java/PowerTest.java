import java.util.Arrays;
import java.util.List;

/** Promises 8 and 9, and parts 2 and 4: the power, and when it comes again. */
public final class PowerTest {
    private static final List<Integer> KEY = Keys.of('k');
    private static final int[] BELOW = {-2, -3, -256, Integer.MIN_VALUE + 1, Integer.MIN_VALUE};

    private static void power(Subject map, int n) {
        map.power(n);
        Check.same("look(8) behind power(" + n + ")", map.look(8), n);
    }

    private static void badPower(Subject map, int n, Class<? extends RuntimeException> due) {
        Check.fails("power(" + n + ")", due, () -> {
            map.power(n);
            return 0;
        });
    }

    private static void allowsNWrites() {
        Check.sentence("promise 8", "The power allows n WRITES from now on");
        for (int n = 0; n <= 3; n++) {
            Subject map = new Subject();
            map.put(KEY, 1, 1);
            power(map, n);
            for (int i = 0; i < n; i++) {
                Check.same("put " + i + " of " + n, map.put(KEY, 1, 2 + i), HashPages.DONE);
                Check.same("WRITES allowed still", map.look(8), n - 1 - i);
                Check.same("not DOWN", map.look(7), 0);
            }
            Check.same("one put more than " + n, map.put(KEY, 1, 99), HashPages.DOWN);
            Check.same("DOWN", map.look(7), 1);
            Check.same("WRITES done", map.look(6), 1 + n);
            Check.same("the value", map.record(11, 0, 1, 0), 1 + n);
        }
        Subject map = new Subject();
        power(map, 5);
        power(map, 2);
        power(map, 0);
        power(map, Integer.MAX_VALUE);
        Check.same("put", map.put(KEY, 1, 1), HashPages.DONE);
        Check.same("one less", map.look(8), Integer.MAX_VALUE - 1);
        power(map, 1);
        Check.same("put", map.put(KEY, 1, 1), HashPages.DONE);
        Check.same("put", map.put(KEY, 1, 1), HashPages.DOWN);
    }

    private static void anyNumber() {
        Check.sentence("promise 8", "(any number, if n is NONE)");
        Subject map = new Subject();
        power(map, 0);
        power(map, -1);
        for (int i = 0; i < 20; i++) {
            Check.same("put", map.put(KEY, 1, i), HashPages.DONE);
            Check.same("any number still", map.look(8), -1);
        }
        Check.same("WRITES done", map.look(6), 20);
    }

    private static void powerThrows() {
        Check.sentence("promise 8", "IllegalArgumentException: n is below NONE");
        Subject map = new Subject();
        map.power(7);
        for (int n : BELOW) {
            badPower(map, n, IllegalArgumentException.class);
            Check.same("WRITES allowed stay", map.look(8), 7);
        }
        power(map, -1);
        for (int n : BELOW) {
            badPower(map, n, IllegalArgumentException.class);
            Check.same("any number stays", map.look(8), -1);
        }
        power(map, 0);
        Check.sentence("promise 8", "IllegalStateException: the disk is DOWN (named ahead of IllegalArgumentException)");
        for (int n : new int[] {-1, 0, 1, Integer.MAX_VALUE}) {
            power(map, 0);
            Check.same("not DOWN with none left", map.look(7), 0);
            Check.same("put", map.put(KEY, 1, 1), HashPages.DOWN);
            badPower(map, n, IllegalStateException.class);
            for (int below : BELOW) {
                badPower(map, below, IllegalStateException.class);
            }
            Check.same("DOWN still", map.look(7), 1);
            Check.same("WRITES allowed", map.look(8), 0);
            map.recover(-1);
        }
    }

    /** Page 6 is the first bucket, 5 the directory, 7 the first free page. */
    private static Subject aboutToSplit() {
        Subject map = Subject.formatted(12, 3);
        map.putAll(Keys.twos(0, 1, 4));
        map.putAll(Keys.twos(1, 1, 3));
        Check.same("252 bytes", map.bucket(6, 2), 252);
        return map;
    }

    private static int putMore(Subject map) {
        List<Integer> more = Keys.twos(1, 1, 4).get(3);
        return map.put(more, 32, more.get(0));
    }

    private static void isDown(String what, Subject map, int writes) {
        Check.same(what + ": DOWN", map.look(7), 1);
        Check.same(what + ": WRITES done", map.look(6), writes);
        Check.same(what + ": WRITES allowed", map.look(8), 0);
        Check.same(what + ": bytes of the tape", map.look(9), 0);
    }

    private static void writeWithNoneLeft() {
        Check.sentence("part 2", "a WRITE with none left is not done: the disk is DOWN, and the call ends there with DOWN");
        Subject put = Subject.formatted(12, 3);
        put.put(KEY, 2, 1);
        int[] before = put.bytes();
        put.power(0);
        Check.same("put", put.put(KEY, 2, 9), HashPages.DOWN);
        isDown("put", put, 1);
        Check.holds("put has changed no byte", Arrays.equals(before, put.bytes()));
        Subject remove = Subject.formatted(12, 3);
        remove.put(KEY, 2, 1);
        remove.power(0);
        Check.same("remove", remove.remove(KEY), HashPages.DOWN);
        isDown("remove", remove, 1);
        Check.holds("remove has changed no byte", Arrays.equals(before, remove.bytes()));
        remove.recover(1);
        Check.same("remove with one left", remove.remove(KEY), HashPages.DONE);
        Check.same("none left, and not DOWN", remove.look(7) * 10 + remove.look(8), 0);
    }

    /** The pages that a doubling, a split and the put's own write go to, one after the other. */
    private static final int[] ORDER = {2, 3, 1, 5, 0, 1, 2, 3, 4, 1, 6, 7, 5, 1, 7};

    private static void eachWriteOfAPut() {
        Check.sentence("part 2", "(a) each new PAGE as an IMAGE, the first one in PAGE 2, and so on; (b) the JOURNAL that "
            + "tells of these; (c) each new PAGE at its own place; (d) the JOURNAL with all 0");
        List<List<Integer>> zeros = Keys.twos(0, 1, 4);
        List<List<Integer>> ones = Keys.twos(1, 1, 4);
        List<List<Integer>> all = Keys.joined(zeros, ones.subList(0, 3));
        int[][] written = {{6, 6}, {1, 5}, {2, 5, 0}, {6, 6}, {1, 5}, {},
            Pages.bucketOf(1, zeros), Pages.bucketOf(1, ones.subList(0, 3)), {6, 7}, {3, 6, 7, 5},
            Pages.bucketOf(1, zeros), Pages.bucketOf(1, ones.subList(0, 3)), {6, 7}, {}, Pages.bucketOf(1, ones)};
        int[][] pages = new int[12][];
        for (int page = 0; page < pages.length; page++) {
            pages[page] = page == 0 ? new int[] {0, 5} : page == 5 ? new int[] {6}
                : page == 6 ? Pages.bucketOf(0, all) : new int[0];
        }
        for (int n = 0; n <= ORDER.length; n++) {
            Subject map = aboutToSplit();
            map.power(n);
            boolean enough = n == ORDER.length;
            Check.same("put with " + n + " WRITES", putMore(map), enough ? HashPages.DONE : HashPages.DOWN);
            Check.same("DOWN with " + n + " WRITES", map.look(7), enough ? 0 : 1);
            Check.same("WRITES done of " + n, map.look(6), 7 + n);
            Check.same("WRITES left of " + n, map.look(8), 0);
            for (int page = 0; page < pages.length; page++) {
                map.pageIs("with " + n + " WRITES", page, pages[page]);
            }
            if (!enough) {
                pages[ORDER[n]] = written[n];
            }
        }
    }

    /** The pages that a remove's own write, a merge and a halving go to. */
    private static final int[] REMOVE_ORDER = {7, 2, 3, 1, 6, 5, 1, 2, 3, 1, 5, 0, 1};

    private static void eachWriteOfARemove() {
        Check.sentence("part 3", "The CHANGE (of a MERGE): that BUCKET, the DIRECTORY's PAGES in which an ENTRY changes. .. "
            + "The CHANGE (of a HALVING): these, in their order, the HEAD.");
        List<List<Integer>> ones = Keys.twos(1, 1, 4);
        int[] both = Pages.bucketOf(0, ones.subList(1, 4));
        int[][] written = {Pages.bucketOf(1, ones.subList(1, 4)), both, {6, 6}, {2, 6, 5}, both, {6, 6}, {},
            {6}, {0, 5}, {2, 5, 0}, {6}, {0, 5}, {}};
        int[][] pages = null;
        for (int n = 0; n <= REMOVE_ORDER.length; n++) {
            Subject map = aboutToSplit();
            putMore(map);
            map.removeAll(Keys.twos(0, 1, 4));
            int before = map.look(6);
            if (pages == null) {
                pages = new int[12][256];
                for (int i = 0; i < 12 * 256; i++) {
                    pages[i / 256][i % 256] = map.byteOf(i / 256, i % 256);
                }
                map.pageIs("the BUCKET of the zeros", 6, 1);
                map.pageIs("the BUCKET of the ones", 7, Pages.bucketOf(1, ones));
            }
            map.power(n);
            boolean enough = n == REMOVE_ORDER.length;
            Check.same("remove with " + n + " WRITES", map.remove(ones.get(0)), enough ? HashPages.DONE : HashPages.DOWN);
            Check.same("DOWN with " + n + " WRITES", map.look(7), enough ? 0 : 1);
            Check.same("WRITES done of " + n, map.look(6), before + n);
            for (int page = 0; page < pages.length; page++) {
                map.pageIs("with " + n + " WRITES", page, pages[page]);
            }
            if (!enough) {
                pages[REMOVE_ORDER[n]] = written[n];
            }
        }
    }

    private static void recoverAllows() {
        Check.sentence("promise 9", "The power goes (if it is there) and comes again, and allows n WRITES (any number, if n "
            + "is NONE)");
        for (int n : new int[] {-1, 0, 1, 2, 1000, Integer.MAX_VALUE}) {
            Subject up = new Subject();
            up.put(KEY, 1, 1);
            up.power(9);
            Check.same("recover(" + n + ") of a disk with its power", up.recover(n), HashPages.DONE);
            Check.same("WRITES allowed", up.look(8), n);
            Check.same("not DOWN", up.look(7), 0);
            Check.same("no WRITE", up.look(6), 1);
            Subject down = new Subject();
            down.put(KEY, 1, 1);
            down.power(0);
            Check.same("put", down.put(KEY, 1, 2), HashPages.DOWN);
            Check.same("recover(" + n + ") of a disk that is DOWN", down.recover(n), HashPages.DONE);
            Check.same("WRITES allowed", down.look(8), n);
            Check.same("not DOWN", down.look(7), 0);
            Check.same("no WRITE", down.look(6), 1);
            Check.same("the value of before", down.get(KEY) * 10 + down.answer(0), 11);
            Check.same("put", down.put(KEY, 1, 3), n == 0 ? HashPages.DOWN : HashPages.DONE);
        }
        Subject spent = new Subject();
        spent.power(0);
        Check.same("recover of a disk without a WRITE left", spent.recover(-1), HashPages.DONE);
        Check.same("any number", spent.look(8), -1);
    }

    private static void recoverThrows() {
        Check.sentence("promise 9", "IllegalArgumentException: n is below NONE");
        Subject up = new Subject();
        up.power(4);
        Subject down = cutWithThreeImages();
        List<Integer> before = down.state();
        for (int n : BELOW) {
            Check.fails("recover(" + n + ")", IllegalArgumentException.class, () -> up.recover(n));
            Check.same("WRITES allowed stay", up.look(8), 4);
            Check.fails("recover(" + n + ") while DOWN", IllegalArgumentException.class, () -> down.recover(n));
            Check.same("DOWN still", down.look(7), 1);
        }
        Check.holds("nothing is done", down.state().equals(before));
        Check.same("recover(-1)", up.recover(-1), HashPages.DONE);
        Check.same("recover(-1) while DOWN", down.recover(-1), HashPages.DONE);
    }

    /** The doubling is done, and of the split the images and the journal are. */
    private static Subject cutWithThreeImages() {
        Subject map = aboutToSplit();
        map.power(6 + 4);
        Check.same("put", putMore(map), HashPages.DOWN);
        map.pageIs("the JOURNAL", 1, 3, 6, 7, 5);
        Check.same("IMAGES told of", map.look(10), 3);
        return map;
    }

    private static void journalTells() {
        Check.sentence("part 4", "if the JOURNAL tells of IMAGES, each of these is written at its place, in order, then the "
            + "JOURNAL with all 0");
        List<List<Integer>> zeros = Keys.twos(0, 1, 4);
        List<List<Integer>> ones = Keys.twos(1, 1, 4);
        List<List<Integer>> all = Keys.joined(zeros, ones.subList(0, 3));
        for (int n = 0; n <= 5; n++) {
            Subject map = cutWithThreeImages();
            int before = map.look(6);
            String what = "recover(" + n + ")";
            Check.same(what, map.recover(n), n < 4 ? HashPages.DOWN : HashPages.DONE);
            Check.same(what + ": WRITES", map.look(6) - before, Math.min(n, 4));
            Check.same(what + ": WRITES allowed", map.look(8), Math.max(0, n - 4));
            Check.same(what + ": DOWN", map.look(7), n < 4 ? 1 : 0);
            Check.same(what + ": IMAGES told of", map.look(10), n < 4 ? 3 : 0);
            map.pageIs(what, 6, n < 1 ? Pages.bucketOf(0, all) : Pages.bucketOf(1, zeros));
            map.pageIs(what, 7, n < 2 ? new int[0] : Pages.bucketOf(1, ones.subList(0, 3)));
            map.pageIs(what, 5, 6, n < 3 ? 6 : 7);
            map.pageIs(what, 1, n < 4 ? new int[] {3, 6, 7, 5} : new int[0]);
            map.pageIs(what + ": the HEAD", 0, 1, 5);
            map.pageIs(what + ": the third IMAGE stays", 4, 6, 7);
            if (n < 4) {
                Check.same(what + ", then recover(3)", map.recover(3), HashPages.DOWN);
                Check.same(what + ", then recover(4)", map.recover(4), HashPages.DONE);
                Check.same(what + ": all of them again", map.look(6) - before, n + 3 + 4);
            }
            map.recover(-1);
            Check.same("the put itself was not done", map.get(ones.get(3)), -1);
            for (List<Integer> key : all) {
                Check.same("a key of before", map.get(key), 32);
            }
            Check.same("put", putMore(map), HashPages.DONE);
        }
    }

    private static void journalTellsNothing() {
        Check.sentence("part 4", "if the JOURNAL tells of IMAGES (else nothing is written)");
        for (int cut : new int[] {0, 1, 2, 6, 7, 8, 9, 14}) {
            Subject map = aboutToSplit();
            map.power(cut);
            Check.same("put", putMore(map), HashPages.DOWN);
            int[] before = map.bytes();
            Check.same("no IMAGES are told of", map.look(10), 0);
            Check.same("recover(0)", map.recover(0), HashPages.DONE);
            Check.holds("no byte is changed", Arrays.equals(before, map.bytes()));
            Check.same("no WRITE", map.look(6), 7 + cut);
            Check.same("DEPTH", map.look(2), cut < 6 ? 0 : 1);
        }
        for (int cut : new int[] {3, 4, 5, 10, 11, 12, 13}) {
            Subject map = aboutToSplit();
            map.power(cut);
            Check.same("put", putMore(map), HashPages.DOWN);
            Check.same("recover(0)", map.recover(0), HashPages.DOWN);
            Check.same("DOWN", map.look(7), 1);
            Check.same("recover(-1)", map.recover(-1), HashPages.DONE);
            Check.same("DEPTH", map.look(2), 1);
            Check.same("BUCKETS", map.look(3), cut < 10 ? 1 : 2);
            Check.same("IMAGES told of", map.look(10), 0);
        }
    }

    /** What a cut call left undone does no harm to the next CHANGE: its first IMAGE is in PAGE 2 again. */
    private static void nextChange() {
        Check.sentence("part 2", "(a) each new PAGE as an IMAGE, the first one in PAGE 2, and so on (behind a CHANGE that was "
            + "cut)");
        List<List<Integer>> zeros = Keys.twos(0, 1, 4);
        List<List<Integer>> ones = Keys.twos(1, 1, 4);
        for (int cut = 0; cut < ORDER.length; cut++) {
            Subject map = aboutToSplit();
            map.power(cut);
            Check.same("put", putMore(map), HashPages.DOWN);
            Check.same("recover", map.recover(-1), HashPages.DONE);
            int before = map.look(6);
            Check.same("put again", putMore(map), HashPages.DONE);
            int due = cut < 3 ? 6 + 8 + 1 : cut < 10 ? 8 + 1 : 1;
            Check.same("cut at " + cut + ": WRITES", map.look(6) - before, due);
            int[][] pages = {{1, 5}, {}, Pages.bucketOf(1, zeros), Pages.bucketOf(1, ones.subList(0, 3)), {6, 7}, {6, 7},
                Pages.bucketOf(1, zeros), Pages.bucketOf(1, ones)};
            for (int page = 0; page < 12; page++) {
                map.pageIs("cut at " + cut, page, page < pages.length ? pages[page] : new int[0]);
            }
        }
        for (int cut = 0; cut < REMOVE_ORDER.length; cut++) {
            Subject map = aboutToSplit();
            putMore(map);
            map.removeAll(zeros);
            map.power(cut);
            Check.same("remove", map.remove(ones.get(0)), HashPages.DOWN);
            Check.same("recover", map.recover(-1), HashPages.DONE);
            int before = map.look(6);
            Check.same("another remove", map.remove(ones.get(1)), HashPages.DONE);
            int due = cut < 4 ? 1 + 6 + 6 : cut < 10 ? 1 + 6 : 1;
            Check.same("cut at " + cut + ": WRITES", map.look(6) - before, due);
            map.pageIs("cut at " + cut, 0, 0, 5);
            map.pageIs("cut at " + cut, 1);
            map.pageIs("cut at " + cut, 2, 6);
            map.pageIs("cut at " + cut, 3, 0, 5);
            map.pageIs("cut at " + cut, 5, 6);
            map.pageIs("cut at " + cut, 6, cut == 0
                ? Pages.bucket(0, Pages.rec(ones.get(0)), Pages.rec(ones.get(2)), Pages.rec(ones.get(3)))
                : Pages.bucketOf(0, ones.subList(2, 4)));
        }
    }

    private static void tapeStays() {
        Check.sentence("promise 9", "(recover has no word on the tape, nor has power)");
        Subject map = cutWithThreeImages();
        map.feed(Keys.of(97, 111, 110, 101));
        Check.same("recover(1)", map.recover(1), HashPages.DOWN);
        Check.same("hash of the tape", map.hash(), 41679);
        Check.same("recover(-1)", map.recover(-1), HashPages.DONE);
        Check.same("hash of the tape", map.hash(), 41679);
        map.power(3);
        Check.same("bytes of the tape", map.look(9), 4);
    }

    public static void main(String[] args) {
        allowsNWrites();
        anyNumber();
        powerThrows();
        writeWithNoneLeft();
        eachWriteOfAPut();
        eachWriteOfARemove();
        recoverAllows();
        recoverThrows();
        journalTells();
        journalTellsNothing();
        nextChange();
        tapeStays();
        Check.end();
    }
}
