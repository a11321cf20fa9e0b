import java.util.List;

/** Promise 5, and what part 3 says of remove(): when it merges, and when it halves. */
public final class RemoveTest {
    private static void notThere() {
        Check.sentence("promise 5", "NONE, and nothing is done, if it is not there.");
        Subject map = Subject.formatted(12, 3);
        List<Integer> sixteen = Keys.of(1, 2, 3, 4, 5, 6, 7, 8, 9, 10, 11, 12, 13, 14, 15, 16);
        map.put(sixteen, 3, 3);
        map.put(Keys.of(1, 2), 2, 2);
        map.get(Keys.of(1, 2));
        map.power(0);
        List<Integer> before = map.state();
        List<List<Integer>> absent = List.of(Keys.of(1), Keys.of(2), Keys.of(1, 2, 2), Keys.of(2, 1), Keys.of(1, 3),
            Keys.of(0), Keys.of(1, 2, 2, 2), sixteen.subList(0, 15), sixteen.subList(1, 16));
        for (List<Integer> key : absent) {
            Check.same("remove of " + key, map.remove(key), HashPages.NONE);
            Check.same("the tape is empty then", map.look(9), 0);
        }
        Check.holds("nothing is done, and the power does not go", map.state().equals(before));
        map.power(-1);
        Check.same("the key of 16 bytes is there", map.remove(sixteen), HashPages.DONE);
        Check.same("and then not", map.remove(sixteen), HashPages.NONE);
        Check.same("the other one is there", map.remove(Keys.of(1, 2)), HashPages.DONE);
        Check.same("and then not", map.remove(Keys.of(1, 2)), HashPages.NONE);
        Check.same("WRITES", map.look(6), 4);
    }

    /** A key with the very hash of one that is there, and no halving of a directory that could be halved. */
    private static void notThereButAlike() {
        Check.sentence("promise 5", "NONE, and nothing is done, if it is not there. (no MERGE, no HALVING)");
        List<List<Integer>> alike = Keys.threes(700, 16, 2);
        Subject map = Subject.formatted(12, 2);
        map.put(alike.get(0), 32, 1);
        map.putAll(Keys.twos(1, 1, 5));
        Check.same("a DOUBLING without a SPLIT", map.put(Keys.threes(1, 1, 1).get(0), 32, 1), HashPages.LOG);
        List<Integer> before = map.state();
        Check.same("remove of the same HASH", map.remove(alike.get(1)), HashPages.NONE);
        Check.holds("nothing is done", map.state().equals(before));
        Check.same("DEPTH", map.look(2), 1);
        Check.same("remove of the key", map.remove(alike.get(0)), HashPages.DONE);
        Check.same("DEPTH", map.look(2), 0);
    }

    /** Two buckets that put() has made small enough for a MERGE: a key that is not there does not bring it about. */
    private static void notThereAndNoMerge() {
        Check.sentence("promise 5", "NONE, and nothing is done, if it is not there. (no MERGE that could be done)");
        List<List<Integer>> zeros = Keys.twos(0, 1, 5);
        List<List<Integer>> ones = Keys.twos(1, 1, 5);
        Subject map = halves();
        for (int i = 0; i < 4; i++) {
            map.put(zeros.get(i), 0, 0);
            map.put(ones.get(i), 0, 0);
        }
        Check.same("bytes of both", map.bucket(6, 2) + map.bucket(7, 2), 32);
        List<Integer> before = map.state();
        Check.same("remove of another 0", map.remove(zeros.get(4)), HashPages.NONE);
        Check.same("remove of another 1", map.remove(ones.get(4)), HashPages.NONE);
        Check.holds("nothing is done", map.state().equals(before));
        Check.same("remove of one that is there", map.remove(ones.get(3)), HashPages.DONE);
        Check.same("the MERGE", map.look(3), 1);
    }

    private static void tapeOf1To16() {
        Check.sentence("promise 5", "IllegalArgumentException: the tape has not 1 to 16 bytes");
        Subject map = Subject.formatted(12, 3);
        for (int size = 1; size <= 16; size++) {
            map.fill(size, 9);
            Check.same("put", map.put(size), HashPages.DONE);
            map.fill(size, 9);
            Check.same("remove of " + size + " bytes", map.remove(), HashPages.DONE);
        }
        map.fill(16, 9);
        map.put(16);
        List<Integer> before = map.state();
        Check.fails("remove of no bytes", IllegalArgumentException.class, map::remove);
        for (int size : new int[] {17, 18, 32, 47, 48}) {
            map.fill(size, 9);
            Check.fails("remove of " + size + " bytes", IllegalArgumentException.class, map::remove);
            Check.same("the tape behind " + size + " bytes", map.look(9), 0);
        }
        Check.holds("nothing is done", map.state().equals(before));
    }

    private static void tapeIsEmptyThen(String what, Subject map) {
        Check.same(what + ": bytes of the tape", map.look(9), 0);
        Check.same(what + ": hash of the tape", map.hash(), -1);
        Check.same(what + ": the next feed", map.feed(2, 1, 1), 2);
    }

    private static void whateverCameOfIt() {
        Check.sentence("promise 5", "The tape is empty then, whatever came of it.");
        Subject map = new Subject();
        map.put(Keys.of(1), 1, 1);
        Check.same("remove", map.remove(Keys.of(1)), HashPages.DONE);
        tapeIsEmptyThen("DONE", map);
        Subject none = new Subject();
        Check.same("remove", none.remove(Keys.of(1)), HashPages.NONE);
        tapeIsEmptyThen("NONE", none);
        Subject large = new Subject();
        large.fill(17, 1);
        Check.fails("remove of 17 bytes", IllegalArgumentException.class, large::remove);
        tapeIsEmptyThen("IllegalArgumentException", large);
        Subject down = new Subject();
        down.put(Keys.of(1), 1, 1);
        down.power(0);
        Check.same("remove", down.remove(Keys.of(1)), HashPages.DOWN);
        tapeIsEmptyThen("DOWN", down);
        Check.fails("remove while DOWN", IllegalStateException.class, down::remove);
        tapeIsEmptyThen("IllegalStateException", down);
    }

    private static void whileDown() {
        Check.sentence("promise 5", "IllegalStateException: the disk is DOWN (named ahead of IllegalArgumentException)");
        Subject map = new Subject();
        map.put(Keys.of(1), 1, 1);
        map.power(0);
        Check.same("remove", map.remove(Keys.of(1)), HashPages.DOWN);
        Check.fails("remove of no bytes while DOWN", IllegalStateException.class, map::remove);
        for (int size : new int[] {1, 16, 17, 48}) {
            map.fill(size, 1);
            Check.fails("remove of " + size + " bytes while DOWN", IllegalStateException.class, map::remove);
        }
        Check.same("the RECORD is there", map.look(5), 1);
        map.recover(-1);
        Check.fails("remove of no bytes", IllegalArgumentException.class, map::remove);
        Check.same("remove", map.remove(Keys.of(1)), HashPages.DONE);
        Check.same("the RECORD is gone", map.look(5), 0);
    }

    private static void oneWrite() {
        Check.sentence("part 3", "remove(): one WRITE of the BUCKET without the RECORD.");
        for (int gone = 1; gone <= 3; gone++) {
            Subject map = Subject.formatted(20, 4);
            map.put(Keys.of(1), 1, 10);
            map.put(Keys.of(2), 1, 20);
            map.put(Keys.of(3), 1, 30);
            Check.same("remove of " + gone, map.remove(Keys.of(gone)), HashPages.DONE);
            int first = gone == 1 ? 2 : 1;
            int second = gone == 3 ? 2 : 3;
            map.pageIs("without " + gone, 7, 0, 2, 0, 8, 1, 1, first, 10 * first, 1, 1, second, 10 * second);
            Check.same("WRITES", map.look(6), 4);
            map.remove(Keys.of(first));
            map.remove(Keys.of(second));
            map.pageIs("without any", 7);
            Check.same("WRITES", map.look(6), 6);
        }
    }

    /** DEPTH 1, the zeros' bucket in page 6, the ones' in page 7; four records of 36 in each. */
    private static Subject halves() {
        Subject map = Subject.formatted(12, 3);
        map.putAll(Keys.twos(0, 1, 4));
        map.putAll(Keys.twos(1, 1, 4));
        Check.same("DEPTH", map.look(2), 1);
        Check.same("the BUCKETS", map.entry(0) * 100 + map.entry(1), 607);
        return map;
    }

    private static void mergeOf126() {
        Check.sentence("part 3", "the RECORDS of both have 126 bytes at most together");
        List<List<Integer>> zeros = Keys.twos(0, 1, 4);
        List<List<Integer>> ones = Keys.twos(1, 1, 4);
        for (int valueSize = 13; valueSize <= 16; valueSize++) {
            for (int side = 0; side < 2; side++) {
                Subject map = halves();
                map.removeAll(side == 0 ? ones.subList(2, 4) : zeros.subList(2, 4));
                map.removeAll(side == 0 ? zeros.subList(3, 4) : ones.subList(3, 4));
                map.put(zeros.get(1), valueSize, 77);
                Check.same("two BUCKETS yet", map.look(3), 2);
                int before = map.look(6);
                int bytes = 36 + 4 + valueSize + 36 + 36;
                boolean merged = bytes <= 126;
                String what = bytes + " bytes, by a remove of a " + side + ": ";
                Check.same(what + "remove", map.remove(side == 0 ? zeros.get(2) : ones.get(2)), HashPages.DONE);
                Check.same(what + "BUCKETS", map.look(3), merged ? 1 : 2);
                Check.same(what + "DEPTH", map.look(2), merged ? 0 : 1);
                Check.same(what + "WRITES", map.look(6) - before, merged ? 1 + 6 + 6 : 1);
                Check.same(what + "those of the BUCKET of the 0", map.bucket(6, 2), merged ? bytes : 40 + valueSize);
            }
        }
    }

    private static void mergedRecords() {
        Check.sentence("part 3", "the RECORDS of the one with the 0 there, then those of the other one, are in the PAGE of "
            + "the first; its depth is D - 1, all ENTRIES of both tell it");
        List<List<Integer>> zeros = Keys.twos(0, 1, 4);
        List<List<Integer>> ones = Keys.twos(1, 1, 4);
        for (int side = 0; side < 2; side++) {
            Subject map = halves();
            if (side == 0) {
                map.removeAll(ones.subList(0, 3));
                map.removeAll(zeros.subList(0, 2));
            } else {
                map.removeAll(zeros.subList(0, 2));
                map.removeAll(ones.subList(0, 3));
            }
            Check.same("BUCKETS", map.look(3), 1);
            map.pageIs("the BUCKET of both", 6, Pages.bucket(0, Pages.rec(zeros.get(2)), Pages.rec(zeros.get(3)),
                Pages.rec(ones.get(3))));
            Check.same("ENTRY 0", map.entry(0), 6);
            Check.same("the other PAGE is FREE", map.kind(7), 0);
        }
    }

    private static void depthAbove0() {
        Check.sentence("part 3", "if D is above 0 .. if DEPTH is above 0");
        Subject map = Subject.formatted(8, 4);
        map.put(Keys.of(1), 0, 0);
        Check.same("remove of the only RECORD", map.remove(Keys.of(1)), HashPages.DONE);
        Check.same("DEPTH", map.look(2), 0);
        Check.same("BUCKETS", map.look(3), 1);
        Check.same("no CHANGE", map.look(6), 2);
        Subject one = halves();
        one.removeAll(Keys.twos(0, 1, 4));
        one.removeAll(Keys.twos(1, 1, 1));
        Check.same("D is 1: a MERGE; DEPTH is 1: a HALVING", one.look(2) * 10 + one.look(3), 1);
    }

    /** Buckets of depth 2, 2 and 1: the one of depth 1 has no partner of its own depth. */
    private static void sameDepth() {
        Check.sentence("part 3", "that one's depth is D, too");
        List<List<Integer>> zeros = Keys.twos(0, 2, 4);
        List<List<Integer>> ones = Keys.twos(1, 2, 4);
        List<List<Integer>> high = Keys.twos(1, 1, 2);
        Subject map = Subject.formatted(12, 3);
        map.putAll(zeros);
        map.putAll(ones);
        map.putAll(high);
        Check.same("DEPTH", map.look(2), 2);
        Check.same("depths", map.bucket(map.entry(0), 0) * 100 + map.bucket(map.entry(1), 0) * 10
            + map.bucket(map.entry(2), 0), 221);
        for (List<Integer> key : zeros) {
            map.put(key, 0, 0);
        }
        for (List<Integer> key : ones) {
            map.put(key, 0, 0);
        }
        int before = map.look(6);
        Check.same("remove of a 1", map.remove(high.get(0)), HashPages.DONE);
        Check.same("no MERGE of depths 1 and 2: one WRITE", map.look(6), before + 1);
        Check.same("BUCKETS", map.look(3), 3);
        Check.same("remove of a 00", map.remove(zeros.get(0)), HashPages.DONE);
        Check.same("a MERGE of depths 2 and 2, then of 1 and 1, two HALVINGS", map.look(6), before + 1 + 1 + 4 * 6);
        Check.same("BUCKETS", map.look(3), 1);
        Check.same("DEPTH", map.look(2), 0);
        map.pageIs("all RECORDS in order", map.entry(0), Pages.bucket(0, Pages.rec(zeros.get(1), 0, 0),
            Pages.rec(zeros.get(2), 0, 0), Pages.rec(zeros.get(3), 0, 0), Pages.rec(ones.get(0), 0, 0),
            Pages.rec(ones.get(1), 0, 0), Pages.rec(ones.get(2), 0, 0), Pages.rec(ones.get(3), 0, 0),
            Pages.rec(high.get(1))));
    }

    /** Four buckets of depth 2; two of them are made small by put(), which merges nothing. */
    private static Subject quarters() {
        Subject map = Subject.formatted(20, 3);
        for (int i = 0; i < 4; i++) {
            map.putAll(Keys.twos(i, 2, 4));
        }
        Check.same("DEPTH", map.look(2), 2);
        Check.same("BUCKETS", map.look(3), 4);
        return map;
    }

    private static void ofTheKeysBucket() {
        Check.sentence("part 3", "a MERGE of the key's BUCKET, of depth D, and that whose ENTRIES have the other bit in "
            + "place D - 1 and the same bits ahead");
        Subject map = quarters();
        for (int i = 1; i < 4; i++) {
            for (List<Integer> key : Keys.twos(i, 2, 4)) {
                map.put(key, 0, 0);
            }
        }
        Check.same("put() merges nothing", map.look(3), 4);
        List<List<Integer>> keys = Keys.twos(0, 2, 4);
        int before = map.look(6);
        Check.same("remove of a 00", map.remove(keys.get(0)), HashPages.DONE);
        Check.same("108 + 16 bytes: a MERGE with the 01, no other one", map.look(3), 3);
        Check.same("a WRITE and a MERGE", map.look(6), before + 1 + 6);
        Check.same("ENTRIES 0 and 1", map.entry(0), map.entry(1));
        Check.holds("ENTRIES 2 and 3 tell two BUCKETS", map.entry(2) != map.entry(3));
        Check.same("DEPTH, as these have it still", map.look(2), 2);
        Check.same("remove of another 00", map.remove(keys.get(1)), HashPages.DONE);
        Check.same("its partner is deeper now", map.look(3), 3);
        Check.same("remove of a 10", map.remove(Keys.twos(2, 2, 1).get(0)), HashPages.DONE);
        Check.same("a MERGE with the 11, and of both", map.look(3), 1);
        Check.same("72 + 16 + 12 + 16 bytes", map.bucket(map.entry(0), 2), 116);
        Check.same("DEPTH", map.look(2), 0);
    }

    private static void asLongAsItCanBeDone() {
        Check.sentence("part 3", "Then, as long as it can be done: a MERGE (the bytes end it)");
        Subject map = quarters();
        map.removeAll(Keys.twos(1, 2, 4));
        for (List<Integer> key : Keys.twos(3, 2, 4)) {
            map.put(key, 0, 0);
        }
        Check.same("no MERGE yet", map.look(3), 4);
        Check.same("remove of a 10", map.remove(Keys.twos(2, 2, 1).get(0)), HashPages.DONE);
        Check.same("108 + 16 bytes: a MERGE; the other half is deeper", map.look(3), 3);
        int before = map.look(6);
        Check.same("remove of a 00", map.remove(Keys.twos(0, 2, 1).get(0)), HashPages.DONE);
        Check.same("108 + 0 bytes: a MERGE; 108 + 124 are too many", map.look(3), 2);
        Check.same("a HALVING: no BUCKET has depth 2", map.look(2), 1);
        Check.same("a WRITE, a MERGE, a HALVING", map.look(6), before + 1 + 6 + 6);
        Check.same("ENTRY 0's bytes", map.bucket(map.entry(0), 2), 108);
        Check.same("ENTRY 1's bytes", map.bucket(map.entry(1), 2), 124);
        Check.same("ENTRY 1's depth", map.bucket(map.entry(1), 0), 1);
    }

    private static void noBucketHasThatDepth() {
        Check.sentence("part 3", "a HALVING, if DEPTH is above 0 and no BUCKET has that depth");
        Subject map = quarters();
        map.removeAll(Keys.twos(0, 2, 4));
        map.removeAll(Keys.twos(1, 2, 1));
        Check.same("the 00 and the 01 are one", map.look(3), 3);
        Check.same("DEPTH stays, as the 10 has it", map.look(2), 2);
        Check.same("depth of the 0", map.bucket(map.entry(0), 0), 1);
        Subject last = quarters();
        last.removeAll(Keys.twos(3, 2, 4));
        last.removeAll(Keys.twos(2, 2, 1));
        Check.same("the 10 and the 11 are one", last.look(3), 3);
        Check.same("DEPTH stays, as the 00 has it", last.look(2), 2);
        last.removeAll(Keys.twos(0, 2, 4));
        Check.same("DEPTH still", last.look(2), 2);
        last.removeAll(Keys.twos(1, 2, 1));
        Check.same("no BUCKET has depth 2", last.look(2), 1);
        Check.same("two of depth 1", last.look(3), 2);
    }

    /** Doublings whose split was refused leave a directory deeper than any bucket; each remove halves all of it. */
    private static void halvingWithoutMerge() {
        Check.sentence("part 3", "Then, as long as it can be done: a HALVING (also without a MERGE)");
        Subject map = Subject.formatted(12, 2);
        map.putAll(Keys.twos(0, 1, 7));
        Check.same("a DOUBLING, no SPLIT", map.put(Keys.twos(1, 1, 1).get(0), 0, 0), HashPages.LOG);
        Check.same("DEPTH", map.look(2), 1);
        Check.same("remove", map.remove(Keys.twos(0, 1, 1).get(0)), HashPages.DONE);
        Check.same("DEPTH", map.look(2), 0);
        Check.same("a WRITE and a HALVING", map.look(6), 7 + 6 + 1 + 6);
        map.pageIs("HEAD", 0, 0, 4);
        map.pageIs("DIRECTORY", 4, 5);
        Subject deep = Subject.formatted(16, 3);
        deep.putAll(Keys.twos(100, 9, 4));
        deep.putAll(Keys.twos(101, 9, 3));
        Check.same("DEPTH 9 without its SPLIT", deep.put(Keys.twos(101, 9, 4).get(3), 32, 1), HashPages.DISK);
        Check.same("DEPTH", deep.look(2), 9);
        int before = deep.look(6);
        Check.same("remove", deep.remove(Keys.twos(100, 9, 1).get(0)), HashPages.DONE);
        Check.same("a WRITE and one HALVING", deep.look(6), before + 1 + 6);
        Check.same("DEPTH is that of the deepest BUCKET", deep.look(2), 8);
    }

    /** From DEPTH 9 down to 0 in one call, which is cut nowhere. */
    private static void allTheWay() {
        Check.sentence("part 3", "Then, as long as it can be done (from DEPTH 9 to 0)");
        Subject map = new Subject();
        List<List<Integer>> low = Keys.twos(2, 9, 4);
        List<List<Integer>> high = Keys.twos(3, 9, 4);
        map.putAll(low);
        map.putAll(high);
        Check.same("DEPTH", map.look(2), 9);
        map.removeAll(low);
        Check.same("144 bytes are too many", map.look(2), 9);
        int before = map.look(6);
        Check.same("remove", map.remove(high.get(0)), HashPages.DONE);
        Check.same("BUCKETS", map.look(3), 1);
        Check.same("DEPTH", map.look(2), 0);
        Check.same("PAGES FREE", map.look(4), 64 - 8 - 4);
        Check.same("a WRITE, nine MERGES, nine HALVINGS of two PAGES each", map.look(6), before + 1 + 9 * 6 + 9 * 6);
        map.pageIs("HEAD", 0, 0, 10);
        map.pageIs("DIRECTORY", 10, 11);
        map.pageIs("BUCKET", 11, Pages.bucketOf(0, high.subList(1, 4)));
    }

    public static void main(String[] args) {
        notThere();
        notThereButAlike();
        notThereAndNoMerge();
        tapeOf1To16();
        whateverCameOfIt();
        whileDown();
        oneWrite();
        mergeOf126();
        mergedRecords();
        depthAbove0();
        sameDepth();
        ofTheKeysBucket();
        asLongAsItCanBeDone();
        noBucketHasThatDepth();
        halvingWithoutMerge();
        allTheWay();
        Check.end();
    }
}
