import java.util.ArrayList;
import java.util.List;

/** Promise 4, and what part 3 says of put(). */
public final class PutTest {
    private static final int[] FAR = {Integer.MIN_VALUE, -16, -1, 32, 256, Integer.MAX_VALUE};

    private static void refused(int keySize, int tape) {
        Subject map = new Subject();
        map.fill(tape, 5);
        Check.fails("put(" + keySize + ") of " + tape + " bytes", IllegalArgumentException.class,
            () -> map.put(keySize));
        Check.same("WRITES behind put(" + keySize + ") of " + tape + " bytes", map.look(6), 0);
        Check.same("RECORDS behind put(" + keySize + ") of " + tape + " bytes", map.look(5), 0);
        Check.same("the tape behind put(" + keySize + ") of " + tape + " bytes", map.look(9), 0);
    }

    private static void taken(int keySize, int tape) {
        Subject map = new Subject();
        List<Integer> bytes = new ArrayList<>();
        for (int i = 0; i < tape; i++) {
            bytes.add(200 + i);
        }
        map.feed(bytes);
        String what = "put(" + keySize + ") of " + tape + " bytes: ";
        Check.same(what + "status", map.put(keySize), HashPages.DONE);
        Check.same(what + "size of the key", map.byteOf(11, 4), keySize);
        Check.same(what + "size of the value", map.byteOf(11, 5), tape - keySize);
        for (int i = 0; i < tape; i++) {
            Check.same(what + "byte " + i, map.byteOf(11, 6 + i), 200 + i);
        }
        Check.same(what + "byte behind the RECORD", map.byteOf(11, 6 + tape), 0);
        Check.same(what + "one WRITE", map.look(6), 1);
    }

    private static void keyAndValue() {
        Check.sentence("promise 4", "The first keySize bytes of the tape are the key, all others the value");
        for (int keySize = 1; keySize <= 6; keySize++) {
            taken(keySize, 6);
        }
        Check.sentence("promise 4", "IllegalArgumentException: keySize is not 1 to 16");
        refused(0, 3);
        refused(0, 0);
        taken(1, 3);
        taken(16, 20);
        refused(17, 20);
        refused(17, 17);
        for (int far : FAR) {
            refused(far, 3);
            refused(far, 48);
        }
        Check.sentence("promise 4", "IllegalArgumentException: .. or above the tape's bytes");
        refused(1, 0);
        taken(1, 1);
        refused(2, 1);
        taken(3, 3);
        refused(4, 3);
        taken(16, 16);
        refused(16, 15);
        Check.sentence("promise 4", "IllegalArgumentException: .. or the value has more than 32");
        taken(1, 32);
        taken(1, 33);
        refused(1, 34);
        taken(8, 40);
        refused(8, 41);
        taken(16, 48);
        refused(15, 48);
        refused(1, 48);
    }

    private static void tapeIsEmptyThen(String what, Subject map) {
        Check.same(what + ": bytes of the tape", map.look(9), 0);
        Check.same(what + ": hash of the tape", map.hash(), -1);
        Check.same(what + ": the next feed", map.feed(2, 1, 1), 2);
    }

    private static void whateverCameOfIt() {
        Check.sentence("promise 4", "The tape is empty then, whatever came of it.");
        Subject map = new Subject();
        Check.same("put", map.put(Keys.of(1), 5, 5), HashPages.DONE);
        tapeIsEmptyThen("DONE", map);
        for (int[] refusal : new int[][] {{0, 3}, {17, 20}, {4, 3}, {1, 34}, {1, 48}}) {
            Subject bad = new Subject();
            bad.fill(refusal[1], 5);
            Check.fails("put(" + refusal[0] + ")", IllegalArgumentException.class, () -> bad.put(refusal[0]));
            tapeIsEmptyThen("put(" + refusal[0] + ") of " + refusal[1], bad);
        }
        Subject noPage = fullBucket(8, 4);
        Check.same("put", noPage.put(Keys.twos(1, 1, 1).get(0), 5, 5), HashPages.DISK);
        tapeIsEmptyThen("DISK", noPage);
        Subject noLog = fullBucket(20, 2);
        Check.same("put", noLog.put(Keys.twos(1, 1, 1).get(0), 5, 5), HashPages.LOG);
        tapeIsEmptyThen("LOG", noLog);
        List<List<Integer>> alike = Keys.threes(777, 16, 7);
        Subject same = new Subject();
        same.putAll(alike.subList(0, 6));
        Check.same("put", same.put(alike.get(6), 32, 5), HashPages.ALIKE);
        tapeIsEmptyThen("ALIKE", same);
        Subject down = new Subject();
        down.power(0);
        Check.same("put", down.put(Keys.of(1), 5, 5), HashPages.DOWN);
        tapeIsEmptyThen("DOWN", down);
        Check.fails("put while DOWN", IllegalStateException.class, () -> down.put(1));
        tapeIsEmptyThen("IllegalStateException", down);
        Check.fails("put(0) while DOWN", IllegalStateException.class, () -> down.put(0));
        tapeIsEmptyThen("IllegalStateException of a bad put", down);
    }

    private static void whileDown() {
        Check.sentence("promise 4", "IllegalStateException: the disk is DOWN (named ahead of IllegalArgumentException)");
        Subject map = new Subject();
        map.power(0);
        Check.same("with no WRITE left it is not DOWN yet", map.look(7), 0);
        Check.same("put", map.put(Keys.of(1), 5, 5), HashPages.DOWN);
        map.fill(3, 1);
        Check.fails("put(2) while DOWN", IllegalStateException.class, () -> map.put(2));
        int[][] bad = {{0, 3}, {17, 20}, {4, 3}, {1, 34}, {1, 0}, {Integer.MIN_VALUE, 1}, {Integer.MAX_VALUE, 48}};
        for (int[] call : bad) {
            map.fill(call[1], 1);
            Check.fails("put(" + call[0] + ") while DOWN", IllegalStateException.class, () -> map.put(call[0]));
        }
        map.recover(-1);
        for (int[] call : bad) {
            map.fill(call[1], 1);
            Check.fails("put(" + call[0] + ")", IllegalArgumentException.class, () -> map.put(call[0]));
        }
    }

    /** Seven records of 36 bytes whose hashes begin with 0: 252 bytes in the first bucket. */
    private static Subject fullBucket(int pages, int log) {
        Subject map = Subject.formatted(pages, log);
        map.putAll(Keys.twos(0, 1, 7));
        Check.same("bytes of a full BUCKET", map.bucket(log + 3, 2), 252);
        return map;
    }

    private static void placeOf252() {
        Check.sentence("part 3", "its RECORDS, .. and the new one have more than 252 bytes together");
        List<List<Integer>> zeros = Keys.twos(0, 1, 7);
        List<Integer> three = Keys.threes(1, 1, 1).get(0);
        for (int valueSize = 30; valueSize <= 32; valueSize++) {
            Subject map = Subject.formatted(12, 3);
            map.putAll(zeros.subList(0, 6));
            int bytes = 216 + 5 + valueSize;
            Check.same("put up to " + bytes + " bytes", map.put(three, valueSize, 1), HashPages.DONE);
            Check.same("DEPTH with " + bytes + " bytes", map.look(2), bytes <= 252 ? 0 : 1);
            Check.same("BUCKETS with " + bytes + " bytes", map.look(3), bytes <= 252 ? 1 : 2);
            Check.same("WRITES with " + bytes + " bytes", map.look(6), bytes <= 252 ? 7 : 6 + 6 + 8 + 1);
            Check.same("bytes of the first BUCKET", map.bucket(6, 2), bytes <= 252 ? bytes : 216);
        }
        Subject full = fullBucket(12, 3);
        full.pageIs("252 bytes", 6, Pages.bucketOf(0, zeros));
        Check.same("the least RECORD, of 3 bytes", full.put(Keys.of(2), 0, 0), HashPages.DONE);
        Check.same("the BUCKET was split", full.look(2), 1);
    }

    private static void withoutThatOfTheSameKey() {
        Check.sentence("part 3", "its RECORDS, without that of the same key");
        List<List<Integer>> zeros = Keys.twos(0, 1, 7);
        Subject map = fullBucket(12, 3);
        for (List<Integer> key : zeros) {
            Check.same("put of the same size", map.put(key, 32, 200), HashPages.DONE);
        }
        Check.same("no CHANGE", map.look(6), 14);
        Check.same("a smaller value", map.put(zeros.get(3), 0, 0), HashPages.DONE);
        Check.same("220 bytes", map.bucket(6, 2), 220);
        Check.same("the larger one again", map.put(zeros.get(3), 32, 1), HashPages.DONE);
        Check.same("252 bytes", map.bucket(6, 2), 252);
        Check.same("no CHANGE", map.look(6), 16);
        List<Integer> three = Keys.threes(1, 1, 1).get(0);
        for (int valueSize = 31; valueSize <= 32; valueSize++) {
            Subject edge = Subject.formatted(12, 3);
            edge.put(three, 10, 1);
            edge.putAll(zeros.subList(0, 6));
            Check.same("231 bytes", edge.bucket(6, 2), 231);
            Check.same("put of the larger value", edge.put(three, valueSize, 2), HashPages.DONE);
            Check.same("a value of " + valueSize + ": DEPTH", edge.look(2), valueSize == 31 ? 0 : 1);
            Check.same("a value of " + valueSize + ": RECORDS", edge.look(5), 7);
            Check.same("its size", edge.get(three), valueSize);
            Check.same("its byte", edge.answer(valueSize - 1), 2);
        }
    }

    private static void oneWrite() {
        Check.sentence("part 3", "Then one WRITE of the BUCKET: without the old RECORD of the key, the new one behind the "
            + "others.");
        Subject map = Subject.formatted(20, 4);
        map.put(Keys.of(1), 2, 10);
        map.put(Keys.of(1, 0), 0, 0);
        map.put(Keys.of(2), 1, 20);
        map.pageIs("three", 7, 0, 3, 0, 13, 1, 2, 1, 10, 10, 2, 0, 1, 0, 1, 1, 2, 20);
        Check.same("WRITES", map.look(6), 3);
        map.put(Keys.of(1), 1, 11);
        map.pageIs("the first again", 7, 0, 3, 0, 12, 2, 0, 1, 0, 1, 1, 2, 20, 1, 1, 1, 11);
        Check.same("WRITES", map.look(6), 4);
        map.put(Keys.of(1), 0, 0);
        map.pageIs("the last again", 7, 0, 3, 0, 11, 2, 0, 1, 0, 1, 1, 2, 20, 1, 0, 1);
        map.put(Keys.of(2), 1, 20);
        map.pageIs("the same value again", 7, 0, 3, 0, 11, 2, 0, 1, 0, 1, 0, 1, 1, 1, 2, 20);
        Check.same("WRITES", map.look(6), 6);
        Check.same("RECORDS", map.look(5), 3);
    }

    /** A directory that could be halved, and then two buckets that could be merged: only remove() does so. */
    private static void oneWriteAlone() {
        Check.sentence("part 3", "Then one WRITE of the BUCKET (no MERGE, no HALVING)");
        Subject map = fullBucket(12, 2);
        Check.same("a DOUBLING without a SPLIT", map.put(Keys.twos(1, 1, 1).get(0), 0, 0), HashPages.LOG);
        int before = map.look(6);
        Check.same("put of a smaller value", map.put(Keys.twos(0, 1, 1).get(0), 0, 0), HashPages.DONE);
        Check.same("put of another key", map.put(Keys.twos(1, 1, 1).get(0), 0, 0), HashPages.DONE);
        Check.same("two WRITES", map.look(6), before + 2);
        Check.same("DEPTH stays, though no BUCKET has it", map.look(2), 1);
        Subject split = fullBucket(12, 3);
        List<Integer> one = Keys.twos(1, 1, 1).get(0);
        Check.same("put", split.put(one, 0, 0), HashPages.DONE);
        before = split.look(6);
        for (List<Integer> key : Keys.twos(0, 1, 7)) {
            Check.same("put of a smaller value", split.put(key, 0, 0), HashPages.DONE);
        }
        Check.same("seven WRITES", split.look(6), before + 7);
        Check.same("32 bytes in two BUCKETS", split.look(3), 2);
        Check.same("DEPTH", split.look(2), 1);
    }

    /** A larger value for a key that is there: refused, so the RECORD of before is what the map has. */
    private static void refusedForAKeyThatIsThere() {
        Check.sentence("part 3", "it is refused, DISK or LOG (the RECORD of the same key stays)");
        List<List<Integer>> zeros = Keys.twos(0, 1, 6);
        List<Integer> three = Keys.threes(1, 1, 1).get(0);
        for (int[] disk : new int[][] {{8, 4, HashPages.DISK}, {12, 2, HashPages.LOG}}) {
            Subject map = Subject.formatted(disk[0], disk[1]);
            map.put(three, 10, 7);
            map.putAll(zeros);
            int page = disk[1] + 3;
            int[] due = new int[256];
            for (int i = 0; i < 256; i++) {
                due[i] = map.byteOf(page, i);
            }
            Check.same("one byte too many", map.put(three, 32, 8), disk[2]);
            map.pageIs("the BUCKET stays", page, due);
            Check.same("its old value", map.get(three), 10);
            Check.same("its old byte", map.answer(9), 7);
            Check.same("as many as there is place for", map.put(three, 31, 8), HashPages.DONE);
            Check.same("252 bytes", map.bucket(page, 2), 252);
        }
    }

    private static void alike() {
        Check.sentence("part 3", "if the HASHES of all its RECORDS and of the key are the same, it is refused: ALIKE");
        List<List<Integer>> same = Keys.threes(12345, 16, 8);
        Subject map = Subject.formatted(30, 4);
        map.putAll(same.subList(0, 6));
        List<Integer> before = map.state();
        Check.same("a seventh of 37 bytes", map.put(same.get(6), 32, 1), HashPages.ALIKE);
        Check.same("a seventh of 31 bytes", map.put(same.get(6), 26, 1), HashPages.ALIKE);
        Check.holds("nothing is done", map.state().equals(before));
        Check.same("a seventh of 30 bytes has a place", map.put(same.get(6), 25, 1), HashPages.DONE);
        Check.same("252 bytes", map.bucket(7, 2), 252);
        Check.same("the same key, as large as before", map.put(same.get(0), 32, 99), HashPages.DONE);
        Check.same("the same key, one byte more", map.put(same.get(6), 26, 1), HashPages.ALIKE);
        Check.same("its old value stays", map.get(same.get(6)), 25);
        Check.same("an eighth of 5 bytes", map.put(same.get(7), 0, 1), HashPages.ALIKE);
        Check.same("DEPTH", map.look(2), 0);
        Check.same("WRITES", map.look(6), 8);
    }

    private static void notAlike() {
        Check.sentence("part 3", "if the HASHES of all its RECORDS and of the key are the same (else it goes on)");
        List<List<Integer>> same = Keys.threes(12345, 16, 7);
        for (int bit = 0; bit < 4; bit++) {
            List<Integer> other = Keys.threes(12345 ^ (32768 >> bit), 16, 1).get(0);
            Subject key = new Subject();
            key.putAll(same.subList(0, 6));
            Check.same("the key's HASH is another", key.put(other, 32, 1), HashPages.DONE);
            Check.same("DEPTH", key.look(2), bit + 1);
            for (int place = 0; place <= 5; place++) {
                Subject record = new Subject();
                record.putAll(same.subList(0, place));
                record.put(other, 32, 1);
                record.putAll(same.subList(place, 5));
                Check.same("the HASH of RECORD " + place + " is another", record.put(same.get(5), 32, 1), HashPages.DONE);
                Check.same("DEPTH", record.look(2), bit + 1);
                Check.same("all alike then", record.put(same.get(6), 32, 1), HashPages.ALIKE);
            }
        }
    }

    /** Records that differ in the very last bit are not alike, though no disk can part them. */
    private static void alikeBut1Bit() {
        Check.sentence("part 3", "if the HASHES .. are the same (all 16 bits)");
        Subject map = Subject.formatted(20, 4);
        map.putAll(Keys.threes(12345, 16, 6));
        Check.same("the last bit is another", map.put(Keys.threes(12344, 16, 1).get(0), 32, 1), HashPages.LOG);
        Check.same("what was done ahead stays: DEPTH", map.look(2), 9);
        Check.same("the last bit is the same", map.put(Keys.threes(12345, 16, 7).get(6), 32, 1), HashPages.ALIKE);
    }

    private static void alikeAhead() {
        Check.sentence("part 3", "it is refused: ALIKE; else, .. DISK or LOG (ALIKE is looked at first)");
        List<List<Integer>> same = Keys.threes(12345, 16, 7);
        for (int[] disk : new int[][] {{8, 4}, {8, 2}}) {
            Subject map = Subject.formatted(disk[0], disk[1]);
            map.putAll(same.subList(0, 6));
            Check.same("all alike, and no CHANGE could be done", map.put(same.get(6), 32, 1), HashPages.ALIKE);
            Check.same("nothing is done", map.look(6), 6);
        }
        Check.sentence("part 3", "as long as the BUCKET of the key has no place (ALIKE behind a SPLIT)");
        Subject map = Subject.formatted(20, 4);
        List<Integer> other = Keys.threes(12345 ^ 8192, 16, 1).get(0);
        map.put(other, 20, 1);
        map.putAll(same.subList(0, 6));
        Check.same("ALIKE when the other one is parted off", map.put(same.get(6), 32, 1), HashPages.ALIKE);
        Check.same("what was done ahead stays", map.look(2), 3);
        Check.same("BUCKETS", map.look(3), 4);
        Check.same("RECORDS", map.look(5), 7);
        Check.same("the other one is there", map.get(other), 20);
        Check.same("the key is not", map.get(same.get(6)), -1);
        Check.same("WRITES", map.look(6), 7 + 3 * (6 + 8));
    }

    private static void doublingOrSplit() {
        Check.sentence("part 3", "if its D is DEPTH, a DOUBLING, else a SPLIT");
        Subject log = fullBucket(20, 2);
        List<Integer> one = Keys.twos(1, 1, 1).get(0);
        Check.same("D is DEPTH: a DOUBLING, then a SPLIT", log.put(one, 0, 0), HashPages.LOG);
        Check.same("the DOUBLING's WRITES", log.look(6), 7 + 6);
        Check.same("D is below DEPTH: a SPLIT", log.put(one, 0, 0), HashPages.LOG);
        Check.same("no DOUBLING", log.look(6), 7 + 6);
        Check.same("DEPTH", log.look(2), 1);
        Subject map = fullBucket(20, 3);
        Check.same("put", map.put(one, 32, 1), HashPages.DONE);
        Check.same("a DOUBLING, a SPLIT, a WRITE", map.look(6), 7 + 6 + 8 + 1);
        map.putAll(Keys.twos(0, 2, 12).subList(7, 12));
        int depth = map.look(2);
        Check.holds("DEPTH is 2 at least", depth >= 2);
        map.putAll(Keys.twos(1, 1, 7).subList(1, 7));
        int before = map.look(6);
        Check.same("a SPLIT alone", map.put(Keys.twos(1, 1, 8).get(7), 32, 1), HashPages.DONE);
        Check.same("its WRITES and one", map.look(6), before + 8 + 1);
        Check.same("DEPTH stays", map.look(2), depth);
    }

    private static void diskAtSplit() {
        Check.sentence("part 3", "SPLIT: a FREE PAGE becomes a BUCKET (DISK, if there is none)");
        Subject none = fullBucket(8, 4);
        List<Integer> one = Keys.twos(1, 1, 1).get(0);
        Check.same("no PAGE is FREE", none.look(4), 0);
        Check.same("put", none.put(one, 1, 1), HashPages.DISK);
        Check.same("what was done ahead stays: DEPTH", none.look(2), 1);
        Check.same("both ENTRIES tell the BUCKET", none.entry(0) * 100 + none.entry(1), 707);
        Check.same("its depth", none.bucket(7, 0), 0);
        Check.same("the RECORDS stay", none.look(5), 7);
        Check.same("put again", none.put(one, 1, 1), HashPages.DISK);
        Check.same("WRITES of the DOUBLING alone", none.look(6), 7 + 6);
        Check.same("a key that is there", none.put(Keys.twos(0, 1, 1).get(0), 32, 1), HashPages.DONE);
        Subject last = fullBucket(9, 4);
        Check.same("one PAGE is FREE", last.look(4), 1);
        Check.same("put", last.put(one, 1, 1), HashPages.DONE);
        Check.same("the last PAGE is a BUCKET", last.kind(8), 5);
        Check.same("no PAGE is FREE", last.look(4), 0);
        Check.same("the next SPLIT", last.put(Keys.twos(0, 1, 8).get(7), 32, 1), HashPages.DISK);
    }

    /** The first eight splits take a page each; DEPTH 9 takes one for the directory, and the last split one more. */
    private static void diskAtDoubling() {
        Check.sentence("part 3", "then FREE ones, as many as it needs (DISK, if there are not so many)");
        for (int free = 7; free <= 10; free++) {
            Subject map = Subject.formatted(3 + 4 + free, 3);
            List<List<Integer>> low = Keys.twos(100, 9, 4);
            List<List<Integer>> high = Keys.twos(101, 9, 4);
            map.putAll(low);
            map.putAll(high.subList(0, 3));
            Check.same("PAGES FREE", map.look(4), free);
            String what = "with " + free + " PAGES FREE: ";
            Check.same(what + "put", map.put(high.get(3), 32, 1), free == 10 ? HashPages.DONE : HashPages.DISK);
            Check.same(what + "DEPTH", map.look(2), free <= 8 ? 8 : 9);
            Check.same(what + "BUCKETS", map.look(3), free == 7 ? 8 : free == 10 ? 10 : 9);
            Check.same(what + "PAGES FREE then", map.look(4), 0);
            Check.same(what + "RECORDS", map.look(5), free == 10 ? 8 : 7);
        }
    }

    /** Up to DEPTH 9 nine splits and a directory page take ten; DEPTH 10 needs two more, and five images. */
    private static void logAtDoubling() {
        Check.sentence("part 3", "LOG: a CHANGE has more PAGES than LOG (a DOUBLING)");
        for (int log = 3; log <= 6; log++) {
            for (int free = 0; free <= 3; free++) {
                Subject map = Subject.formatted(log + 4 + 10 + free, log);
                List<List<Integer>> low = Keys.twos(600, 10, 4);
                List<List<Integer>> high = Keys.twos(601, 10, 4);
                map.putAll(low);
                map.putAll(high.subList(0, 3));
                String what = "LOG " + log + ", " + free + " PAGES FREE: ";
                int due = log < 5 ? free < 2 ? HashPages.DISK : HashPages.LOG
                    : free < 3 ? HashPages.DISK : HashPages.DONE;
                Check.same(what + "put", map.put(high.get(3), 32, 1), due);
                Check.same(what + "DEPTH", map.look(2), log >= 5 && free >= 2 ? 10 : 9);
                Check.same(what + "BUCKETS", map.look(3), due == HashPages.DONE ? 11 : 10);
                Check.same(what + "RECORDS", map.look(5), due == HashPages.DONE ? 8 : 7);
            }
        }
    }

    private static void ofBothDisk() {
        Check.sentence("part 3", "it is refused, DISK or LOG (of both DISK); what was done ahead of that stays");
        int[][] cases = {{3, 1, HashPages.DISK}, {3, 2, HashPages.LOG}, {5, 1, HashPages.DISK}, {5, 3, HashPages.DONE}};
        for (int[] one : cases) {
            Subject map = Subject.formatted(one[0] + 4 + 10 + one[1], one[0]);
            map.putAll(Keys.twos(600, 10, 4));
            map.putAll(Keys.twos(601, 10, 3));
            List<Integer> key = Keys.twos(601, 10, 4).get(3);
            Check.same("LOG " + one[0] + ", " + one[1] + " PAGES FREE: put", map.put(key, 32, 1), one[2]);
            if (one[2] != HashPages.DONE) {
                List<Integer> before = map.state();
                Check.same("put again", map.put(key, 32, 1), one[2]);
                Check.holds("nothing more is done", map.state().equals(before));
                Check.same("DEPTH", map.look(2), 9);
                Check.same("the BUCKET of all seven RECORDS", map.bucket(map.entry(300), 1), 7);
                Check.same("its depth", map.bucket(map.entry(300), 0), 9);
                Check.same("the key is not there", map.get(key), -1);
            }
        }
    }

    private static void logAtSplit() {
        Check.sentence("part 3", "LOG: a CHANGE has more PAGES than LOG (a SPLIT)");
        List<Integer> one = Keys.twos(1, 1, 1).get(0);
        for (int log = 2; log <= 4; log++) {
            Subject map = fullBucket(12, log);
            Check.same("LOG " + log + ": put", map.put(one, 1, 1), log == 2 ? HashPages.LOG : HashPages.DONE);
            Check.same("LOG " + log + ": DEPTH", map.look(2), 1);
            Check.same("LOG " + log + ": BUCKETS", map.look(3), log == 2 ? 1 : 2);
            Check.same("LOG " + log + ": RECORDS", map.look(5), log == 2 ? 7 : 8);
        }
        Subject least = fullBucket(8, 2);
        Check.same("LOG, as long as a PAGE is FREE", least.put(one, 1, 1), HashPages.LOG);
        Check.same("two are", least.look(4), 2);
    }

    /** Two directory pages with LOG 3: the entries 384 to 511 change, up to the second page's end, and no third page. */
    private static void splitUpToAPagesEnd() {
        Check.sentence("part 3", "LOG: a CHANGE has more PAGES than LOG (as many are enough)");
        Subject map = Subject.formatted(60, 3);
        map.putAll(Keys.twos(0, 9, 4));
        map.putAll(Keys.twos(1, 9, 4));
        map.putAll(Keys.twos(2, 2, 4));
        map.putAll(Keys.twos(3, 2, 3));
        Check.same("DEPTH", map.look(2), 9);
        Check.same("256 ENTRIES tell the BUCKET of the ones", map.entry(256), map.entry(511));
        int before = map.look(6);
        Check.same("the SPLIT", map.put(Keys.twos(3, 2, 4).get(3), 32, 1), HashPages.DONE);
        Check.same("its WRITES and one", map.look(6), before + 8 + 1);
        Check.same("ENTRY 383 tells the old one", map.entry(383), map.entry(256));
        Check.same("ENTRY 384 tells the new one", map.entry(384), map.entry(511));
        Check.holds("they differ", map.entry(256) != map.entry(511));
    }

    /** The largest directory is of DEPTH 14, of 64 pages: 128 pages and the HEAD are above any LOG. */
    private static void deepest() {
        Check.sentence("part 3", "LOG: a CHANGE has more PAGES than LOG (DEPTH 15 needs 129 PAGES)");
        for (int log : new int[] {64, 65, 100}) {
            Subject map = Subject.formatted(255, log);
            List<List<Integer>> keys = Keys.threes(5, 14, 7);
            map.putAll(keys.subList(0, 6));
            Check.same("LOG " + log + ": put", map.put(keys.get(6), 32, 1), HashPages.LOG);
            Check.same("LOG " + log + ": DEPTH", map.look(2), log == 64 ? 13 : 14);
            Check.same("LOG " + log + ": the last of the DIRECTORY's PAGES", map.kind(map.byteOf(0, log == 64 ? 32 : 64)),
                4);
            Check.same("LOG " + log + ": none behind it", map.byteOf(0, log == 64 ? 33 : 65), 0);
            Check.same("LOG " + log + ": the last ENTRY", map.bucket(map.entry(log == 64 ? 8191 : 16383), 0), 1);
            Check.same("LOG " + log + ": none behind it", map.entry(log == 64 ? 8192 : 16384), -1);
        }
    }

    public static void main(String[] args) {
        keyAndValue();
        whateverCameOfIt();
        whileDown();
        placeOf252();
        withoutThatOfTheSameKey();
        oneWrite();
        oneWriteAlone();
        refusedForAKeyThatIsThere();
        alike();
        notAlike();
        alikeBut1Bit();
        alikeAhead();
        doublingOrSplit();
        diskAtSplit();
        diskAtDoubling();
        logAtDoubling();
        ofBothDisk();
        logAtSplit();
        splitUpToAPagesEnd();
        deepest();
        Check.end();
    }
}
