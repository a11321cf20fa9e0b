import java.util.ArrayList;
import java.util.Arrays;
import java.util.List;
import java.util.TreeMap;

/**
 * The document once more, written for plainness alone: every step reads the disk anew into lists, works on texts of
 * bits, and compares whole pages. It shares no code and no way of reckoning with HashPages.
 */
final class Model {
    static final int NONE = -1;
    static final int DONE = 0;
    static final int DISK = 1;
    static final int LOG = 2;
    static final int ALIKE = 3;
    static final int DOWN = 4;

    private static final class PowerGone extends Exception {
        private static final long serialVersionUID = 1L;
    }

    private static final class Rec {
        List<Integer> key;
        List<Integer> value;

        int size() {
            return 2 + key.size() + value.size();
        }
    }

    private static final class Bucket {
        int depth;
        List<Rec> records = new ArrayList<>();

        int size() {
            int sum = 0;
            for (Rec rec : records) {
                sum += rec.size();
            }
            return sum;
        }
    }

    private static final class NewPage {
        final int place;
        final int[] bytes;

        NewPage(int place, int[] bytes) {
            this.place = place;
            this.bytes = bytes;
        }
    }

    /** What happened in all models of a test, so that the test can tell whether its runs go everywhere. */
    static final TreeMap<String, Integer> SEEN = new TreeMap<>();

    private static int seen(String what, int status) {
        String[] names = {"DONE", "DISK", "LOG", "ALIKE", "DOWN"};
        SEEN.merge(what + " " + (status == NONE ? "NONE" : names[status]), 1, Integer::sum);
        return status;
    }

    private int[][] disk;
    private int log;
    private int writes;
    private int allowed;
    private boolean down;
    private final List<Integer> tape = new ArrayList<>();
    private List<Integer> answer = new ArrayList<>();

    Model() {
        format(64, 8);
    }

    void format(int pages, int newLog) {
        if (pages < 8 || pages > 255 || newLog < 2 || newLog > 100 || pages < newLog + 4) {
            throw new IllegalArgumentException();
        }
        log = newLog;
        disk = new int[pages][256];
        writes = 0;
        allowed = NONE;
        down = false;
        disk[0][1] = log + 2;
        disk[log + 2][0] = log + 3;
        answer = new ArrayList<>();
    }

    int feed(int n, long a, long b) {
        if (n < 1 || n > 16) {
            throw new IllegalArgumentException();
        }
        if (tape.size() + n > 48) {
            throw new UnsupportedOperationException();
        }
        List<Integer> all = new ArrayList<>();
        for (int i = 0; i < 8; i++) {
            all.add((int) Math.floorMod(a, 256L));
            a = Math.floorDiv(a, 256L);
        }
        for (int i = 0; i < 8; i++) {
            all.add((int) Math.floorMod(b, 256L));
            b = Math.floorDiv(b, 256L);
        }
        tape.addAll(all.subList(0, n));
        return tape.size();
    }

    private List<Integer> takeTape() {
        List<Integer> taken = new ArrayList<>(tape);
        tape.clear();
        return taken;
    }

    int put(int keySize) {
        List<Integer> taken = takeTape();
        if (down) {
            throw new IllegalStateException();
        }
        if (keySize < 1 || keySize > 16 || keySize > taken.size() || taken.size() - keySize > 32) {
            throw new IllegalArgumentException();
        }
        Rec fresh = new Rec();
        fresh.key = taken.subList(0, keySize);
        fresh.value = taken.subList(keySize, taken.size());
        try {
            return seen("put", putRecord(fresh));
        } catch (PowerGone gone) {
            return seen("put", DOWN);
        }
    }

    private int putRecord(Rec fresh) throws PowerGone {
        while (true) {
            int page = pageOf(fresh.key);
            Bucket bucket = readBucket(page);
            Bucket next = new Bucket();
            next.depth = bucket.depth;
            boolean alike = true;
            for (Rec rec : bucket.records) {
                alike &= hashOf(rec.key) == hashOf(fresh.key);
                if (!rec.key.equals(fresh.key)) {
                    next.records.add(rec);
                }
            }
            next.records.add(fresh);
            if (next.size() <= 252) {
                write(page, encode(next));
                return DONE;
            }
            if (alike) {
                return ALIKE;
            }
            int status = bucket.depth == disk[0][0] ? doubling() : split(page, bits(hashOf(fresh.key)));
            if (status != DONE) {
                return status;
            }
        }
    }

    private int doubling() throws PowerGone {
        List<Integer> old = entries();
        List<Integer> next = new ArrayList<>();
        for (int told : old) {
            next.add(told);
            next.add(told);
        }
        List<Integer> places = new ArrayList<>(directoryPages());
        List<Integer> free = freePages();
        while (places.size() * 256 < next.size()) {
            if (free.isEmpty()) {
                return seen("doubling", DISK);
            }
            places.add(free.remove(0));
        }
        String size = places.size() == 1 ? "" : " to many pages";
        return seen("doubling" + size, layDirectory(disk[0][0] + 1, next, places));
    }

    private int layDirectory(int depth, List<Integer> next, List<Integer> places) throws PowerGone {
        List<NewPage> change = new ArrayList<>();
        int[] head = new int[256];
        head[0] = depth;
        for (int k = 0; k < places.size(); k++) {
            head[1 + k] = places.get(k);
            change.add(new NewPage(places.get(k), directoryPage(next, k)));
        }
        change.add(new NewPage(0, head));
        return perform(change);
    }

    private int[] directoryPage(List<Integer> entries, int k) {
        int[] bytes = new int[256];
        for (int j = 0; j < 256 && k * 256 + j < entries.size(); j++) {
            bytes[j] = entries.get(k * 256 + j);
        }
        return bytes;
    }

    private int split(int page, String hashBits) throws PowerGone {
        List<Integer> free = freePages();
        if (free.isEmpty()) {
            return seen("split", DISK);
        }
        int added = free.get(0);
        Bucket bucket = readBucket(page);
        Bucket zero = new Bucket();
        Bucket one = new Bucket();
        zero.depth = bucket.depth + 1;
        one.depth = bucket.depth + 1;
        for (Rec rec : bucket.records) {
            (bits(hashOf(rec.key)).charAt(bucket.depth) == '0' ? zero : one).records.add(rec);
        }
        List<Integer> next = entries();
        for (int i = 0; i < next.size(); i++) {
            if (next.get(i) == page && entryBits(i).charAt(bucket.depth) == '1') {
                next.set(i, added);
            }
        }
        List<NewPage> change = new ArrayList<>();
        change.add(new NewPage(page, encode(zero)));
        change.add(new NewPage(added, encode(one)));
        addChangedDirectory(change, next);
        return seen("split" + (change.size() > 3 ? " in many pages" : ""), perform(change));
    }

    private void addChangedDirectory(List<NewPage> change, List<Integer> next) {
        List<Integer> places = directoryPages();
        for (int k = 0; k < places.size(); k++) {
            int[] bytes = directoryPage(next, k);
            if (!Arrays.equals(bytes, disk[places.get(k)])) {
                change.add(new NewPage(places.get(k), bytes));
            }
        }
    }

    int remove() {
        List<Integer> key = takeTape();
        if (down) {
            throw new IllegalStateException();
        }
        if (key.isEmpty() || key.size() > 16) {
            throw new IllegalArgumentException();
        }
        int page = pageOf(key);
        Bucket bucket = readBucket(page);
        Rec found = null;
        for (Rec rec : bucket.records) {
            if (rec.key.equals(key)) {
                found = rec;
            }
        }
        if (found == null) {
            return seen("remove", NONE);
        }
        bucket.records.remove(found);
        try {
            write(page, encode(bucket));
            while (merge(key)) { }
            while (halving()) { }
            return seen("remove", DONE);
        } catch (PowerGone gone) {
            return seen("remove", DOWN);
        }
    }

    private boolean merge(List<Integer> key) throws PowerGone {
        int page = pageOf(key);
        Bucket own = readBucket(page);
        int d = own.depth;
        if (d == 0) {
            return false;
        }
        String prefix = bits(hashOf(key)).substring(0, d);
        char turned = prefix.charAt(d - 1) == '0' ? '1' : '0';
        String partner = prefix.substring(0, d - 1) + turned;
        List<Integer> next = entries();
        int other = NONE;
        for (int i = 0; i < next.size(); i++) {
            if (entryBits(i).startsWith(partner)) {
                other = next.get(i);
            }
        }
        Bucket second = readBucket(other);
        if (second.depth != d || own.size() + second.size() > 126) {
            return false;
        }
        int kept = turned == '1' ? page : other;
        int left = turned == '1' ? other : page;
        Bucket both = new Bucket();
        both.depth = d - 1;
        both.records.addAll(readBucket(kept).records);
        both.records.addAll(readBucket(left).records);
        for (int i = 0; i < next.size(); i++) {
            if (next.get(i) == left) {
                next.set(i, kept);
            }
        }
        List<NewPage> change = new ArrayList<>();
        change.add(new NewPage(kept, encode(both)));
        addChangedDirectory(change, next);
        return seen("merge" + (change.size() > 2 ? " in many pages" : ""), perform(change)) == DONE;
    }

    private boolean halving() throws PowerGone {
        int depth = disk[0][0];
        List<Integer> old = entries();
        if (depth == 0) {
            return false;
        }
        for (int told : old) {
            if (disk[told][0] == depth) {
                return false;
            }
        }
        List<Integer> next = new ArrayList<>();
        for (int i = 0; i < old.size(); i += 2) {
            next.add(old.get(i));
        }
        int needed = (next.size() + 255) / 256;
        String size = needed == 1 ? "" : " to many pages";
        int status = layDirectory(depth - 1, next, directoryPages().subList(0, needed));
        return seen("halving" + size, status) == DONE;
    }

    private int perform(List<NewPage> change) throws PowerGone {
        if (change.size() > log) {
            return LOG;
        }
        int[] journal = new int[256];
        journal[0] = change.size();
        for (int i = 0; i < change.size(); i++) {
            write(2 + i, change.get(i).bytes);
            journal[1 + i] = change.get(i).place;
        }
        write(1, journal);
        for (NewPage page : change) {
            write(page.place, page.bytes);
        }
        write(1, new int[256]);
        return DONE;
    }

    private void write(int page, int[] bytes) throws PowerGone {
        if (allowed == 0) {
            down = true;
            throw new PowerGone();
        }
        if (allowed != NONE) {
            allowed--;
        }
        writes++;
        disk[page] = bytes.clone();
    }

    int get() {
        List<Integer> key = takeTape();
        if (down) {
            throw new IllegalStateException();
        }
        answer = new ArrayList<>();
        if (key.isEmpty() || key.size() > 16) {
            return NONE;
        }
        for (Rec rec : readBucket(pageOf(key)).records) {
            if (rec.key.equals(key)) {
                answer = rec.value;
                return answer.size();
            }
        }
        return NONE;
    }

    int answer(int i) {
        return i < 0 || i >= answer.size() ? NONE : answer.get(i);
    }

    void power(int n) {
        if (down) {
            throw new IllegalStateException();
        }
        if (n < -1) {
            throw new IllegalArgumentException();
        }
        allowed = n;
    }

    int recover(int n) {
        if (n < -1) {
            throw new IllegalArgumentException();
        }
        down = false;
        allowed = n;
        try {
            int told = disk[1][0];
            for (int i = 0; i < told; i++) {
                write(disk[1][1 + i], disk[2 + i]);
            }
            if (told > 0) {
                write(1, new int[256]);
            }
            return seen(told > 0 ? "recover with images" : "recover", DONE);
        } catch (PowerGone gone) {
            return seen("recover", DOWN);
        }
    }

    int byteOf(int page, int i) {
        return page < 0 || page >= disk.length || i < 0 || i > 255 ? NONE : disk[page][i];
    }

    int kind(int page) {
        if (page < 0 || page >= disk.length) {
            return NONE;
        }
        if (page < 2) {
            return page + 1;
        }
        if (page < 2 + log) {
            return 3;
        }
        return directoryPages().contains(page) ? 4 : entries().contains(page) ? 5 : 0;
    }

    int[] kinds() {
        List<Integer> directory = directoryPages();
        List<Integer> told = entries();
        int[] kinds = new int[disk.length];
        for (int page : told) {
            kinds[page] = 5;
        }
        for (int page : directory) {
            kinds[page] = 4;
        }
        for (int page = 0; page < 2 + log; page++) {
            kinds[page] = page < 2 ? page + 1 : 3;
        }
        return kinds;
    }

    int hash() {
        return tape.isEmpty() || tape.size() > 16 ? NONE : hashOf(tape);
    }

    int entry(int i) {
        List<Integer> entries = entries();
        return i < 0 || i >= entries.size() ? NONE : entries.get(i);
    }

    int bucket(int page, int what) {
        if (kind(page) != 5) {
            return NONE;
        }
        Bucket bucket = readBucket(page);
        return what == 0 ? bucket.depth : what == 1 ? bucket.records.size() : what == 2 ? bucket.size() : NONE;
    }

    int record(int page, int r, int what, int j) {
        if (kind(page) != 5 || what < 0 || what > 1 || r < 0 || r >= readBucket(page).records.size()) {
            return NONE;
        }
        List<Integer> part = recordPart(page, r, what);
        return j < 0 || j >= part.size() ? NONE : part.get(j);
    }

    /** The key (what 0) or value (1) of a record of a page that is known to be a bucket's. */
    List<Integer> recordPart(int page, int r, int what) {
        Rec rec = readBucket(page).records.get(r);
        return what == 0 ? rec.key : rec.value;
    }

    int look(int what) {
        int[] kinds = kinds();
        int[] counts = new int[6];
        int records = 0;
        for (int page = 0; page < kinds.length; page++) {
            counts[kinds[page]]++;
            records += kinds[page] == 5 ? readBucket(page).records.size() : 0;
        }
        int[] all = {disk.length, log, disk[0][0], counts[5], counts[0], records, writes, down ? 1 : 0, allowed,
            tape.size(), disk[1][0]};
        return what < 0 || what >= all.length ? NONE : all[what];
    }

    int pages() {
        return disk.length;
    }

    int[][] bytes() {
        int[][] bytes = new int[disk.length][];
        for (int page = 0; page < bytes.length; page++) {
            bytes[page] = disk[page].clone();
        }
        return bytes;
    }

    boolean isDown() {
        return down;
    }

    static int hashOf(List<Integer> key) {
        int h = 40503;
        for (int b : key) {
            h = (int) ((long) (h ^ b) * 40503 % 65536);
            h = h ^ (h / 32);
        }
        return h;
    }

    private static String bits(int hash) {
        return Integer.toBinaryString(65536 + hash).substring(1);
    }

    private String entryBits(int i) {
        return Integer.toBinaryString((1 << disk[0][0]) + i).substring(1);
    }

    private int pageOf(List<Integer> key) {
        String first = bits(hashOf(key)).substring(0, disk[0][0]);
        return entries().get(first.isEmpty() ? 0 : Integer.parseInt(first, 2));
    }

    private List<Integer> directoryPages() {
        List<Integer> places = new ArrayList<>();
        for (int covered = 0; covered < 1 << disk[0][0]; covered += 256) {
            places.add(disk[0][1 + places.size()]);
        }
        return places;
    }

    private List<Integer> entries() {
        List<Integer> entries = new ArrayList<>();
        for (int place : directoryPages()) {
            for (int j = 0; j < 256 && entries.size() < 1 << disk[0][0]; j++) {
                entries.add(disk[place][j]);
            }
        }
        return entries;
    }

    private List<Integer> freePages() {
        int[] kinds = kinds();
        List<Integer> free = new ArrayList<>();
        for (int page = 0; page < kinds.length; page++) {
            if (kinds[page] == 0) {
                free.add(page);
            }
        }
        return free;
    }

    private Bucket readBucket(int page) {
        int[] bytes = disk[page];
        Bucket bucket = new Bucket();
        bucket.depth = bytes[0];
        int at = 4;
        for (int r = 0; r < bytes[1]; r++) {
            Rec rec = new Rec();
            rec.key = part(bytes, at + 2, bytes[at]);
            rec.value = part(bytes, at + 2 + bytes[at], bytes[at + 1]);
            at += rec.size();
            bucket.records.add(rec);
        }
        if (at - 4 != bytes[2] * 256 + bytes[3]) {
            throw new AssertionError("a bucket's bytes are not those of its records");
        }
        return bucket;
    }

    private static List<Integer> part(int[] bytes, int from, int size) {
        List<Integer> part = new ArrayList<>();
        for (int i = from; i < from + size; i++) {
            part.add(bytes[i]);
        }
        return part;
    }

    private static int[] encode(Bucket bucket) {
        int[] bytes = new int[256];
        bytes[0] = bucket.depth;
        bytes[1] = bucket.records.size();
        bytes[2] = bucket.size() / 256;
        bytes[3] = bucket.size() % 256;
        int at = 4;
        for (Rec rec : bucket.records) {
            bytes[at++] = rec.key.size();
            bytes[at++] = rec.value.size();
            for (int b : rec.key) {
                bytes[at++] = b;
            }
            for (int b : rec.value) {
                bytes[at++] = b;
            }
        }
        return bytes;
    }
}
