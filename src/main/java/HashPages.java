import java.util.Arrays;

/**
 * A map on a disk of pages: extendible hashing with a journal written ahead, on a power that may go at any write.
 * All that the map knows stands in the bytes of its disk, so that a power cut needs no memory to be mended.
 */
public final class HashPages {
    public static final int NONE = -1;
    public static final int DONE = 0;
    public static final int DISK = 1;
    public static final int LOG = 2;
    public static final int ALIKE = 3;
    public static final int DOWN = 4;

    private static final int PAGE_SIZE = 256;
    private static final int LEAST_PAGES = 8;
    private static final int MOST_PAGES = 255;
    private static final int LEAST_LOG = 2;
    private static final int MOST_LOG = 100;
    private static final int PAGES_BESIDE_LOG = 4;

    private static final int HEAD_PAGE = 0;
    private static final int JOURNAL_PAGE = 1;
    private static final int FIRST_IMAGE = 2;

    private static final int KIND_FREE = 0;
    private static final int KIND_HEAD = 1;
    private static final int KIND_JOURNAL = 2;
    private static final int KIND_IMAGE = 3;
    private static final int KIND_DIRECTORY = 4;
    private static final int KIND_BUCKET = 5;

    private static final int RECORDS_START = 4;
    private static final int BUCKET_ROOM = 252;
    private static final int MERGE_ROOM = 126;

    private static final int MOST_KEY = 16;
    private static final int MOST_VALUE = 32;
    private static final int MOST_TAPE = 48;
    private static final int HASH_BITS = 16;
    private static final int HASH_FACTOR = 40503;

    // Each step makes a depth of at most HASH_BITS one more or one less, so no call comes near this.
    private static final int MOST_STEPS = 64;

    private final Disk disk;
    private final Change change;
    private final Page built;
    private final Page head;
    private final Tape tape;
    private final int[] answerBytes;
    private int answerSize;

    public HashPages() {
        disk = new Disk();
        change = new Change(disk);
        built = new Page();
        head = new Page();
        tape = new Tape();
        answerBytes = new int[MOST_VALUE];
        answerSize = 0;
        disk.wipe(64, 8, built);
    }

    public void format(int pages, int log) throws IllegalArgumentException {
        if (pages < LEAST_PAGES || pages > MOST_PAGES) {
            throw new IllegalArgumentException("pages is not 8 to 255");
        }
        if (log < LEAST_LOG || log > MOST_LOG) {
            throw new IllegalArgumentException("log is not 2 to 100");
        }
        if (pages < log + PAGES_BESIDE_LOG) {
            throw new IllegalArgumentException("pages is below LOG + 4");
        }
        disk.wipe(pages, log, built);
        answerSize = 0;
    }

    public int feed(int n, long a, long b) throws IllegalArgumentException, UnsupportedOperationException {
        if (n < 1 || n > 16) {
            throw new IllegalArgumentException("n is not 1 to 16");
        }
        if (tape.size() + n > MOST_TAPE) {
            throw new UnsupportedOperationException("the tape would have more than 48 bytes");
        }
        for (int i = 0; i < n; i++) {
            long word = i < 8 ? a : b;
            tape.append((int) (word >>> (8 * (i & 7))) & 255);
        }
        return tape.size();
    }

    public int put(int keySize) throws IllegalStateException, IllegalArgumentException {
        int size = tape.take();
        if (disk.isDown()) {
            throw new IllegalStateException("the disk is DOWN");
        }
        if (keySize < 1 || keySize > MOST_KEY || keySize > size) {
            throw new IllegalArgumentException("keySize is not 1 to 16, or above the tape's bytes");
        }
        if (size - keySize > MOST_VALUE) {
            throw new IllegalArgumentException("the value has more than 32 bytes");
        }
        int hash = tape.keyHash(keySize);
        int status = makePlace(hash, keySize, size);
        return status == DONE ? storeRecord(disk.bucketOf(hash), keySize, size) : status;
    }

    public int remove() throws IllegalStateException, IllegalArgumentException {
        int size = tape.take();
        if (disk.isDown()) {
            throw new IllegalStateException("the disk is DOWN");
        }
        if (size < 1 || size > MOST_KEY) {
            throw new IllegalArgumentException("the tape has not 1 to 16 bytes");
        }
        int hash = tape.keyHash(size);
        int page = disk.bucketOf(hash);
        int old = disk.find(page, tape, size);
        if (old == NONE) {
            return NONE;
        }
        buildWithout(page, old);
        if (!disk.write(page, built)) {
            return DOWN;
        }
        int status = mergeAll(hash);
        return status == DOWN ? DOWN : halveAll();
    }

    public int get() throws IllegalStateException {
        int size = tape.take();
        if (disk.isDown()) {
            throw new IllegalStateException("the disk is DOWN");
        }
        answerSize = 0;
        if (size < 1 || size > MOST_KEY) {
            return NONE;
        }
        int page = disk.bucketOf(tape.keyHash(size));
        int found = disk.find(page, tape, size);
        if (found == NONE) {
            return NONE;
        }
        int valueSize = disk.at(page, found + 1);
        for (int i = 0; i < valueSize && i < answerBytes.length; i++) {
            answerBytes[i] = disk.at(page, found + 2 + size + i);
        }
        answerSize = valueSize;
        return answerSize;
    }

    public int answer(int i) {
        return i >= 0 && i < answerSize && i < answerBytes.length ? answerBytes[i] : NONE;
    }

    public void power(int n) throws IllegalStateException, IllegalArgumentException {
        if (disk.isDown()) {
            throw new IllegalStateException("the disk is DOWN");
        }
        if (n < NONE) {
            throw new IllegalArgumentException("n is below NONE");
        }
        disk.allow(n);
    }

    public int recover(int n) throws IllegalArgumentException {
        if (n < NONE) {
            throw new IllegalArgumentException("n is below NONE");
        }
        disk.allow(n);
        if (disk.at(JOURNAL_PAGE, 0) == 0) {
            return DONE;
        }
        return change.settle() ? DONE : DOWN;
    }

    public int byteOf(int page, int i) {
        return disk.at(page, i);
    }

    public int kind(int page) {
        return disk.kindOf(page);
    }

    public int hash() {
        int size = tape.size();
        return size >= 1 && size <= MOST_KEY ? tape.keyHash(size) : NONE;
    }

    public int entry(int i) {
        return disk.entryAt(i);
    }

    public int bucket(int page, int what) {
        if (disk.kindOf(page) != KIND_BUCKET) {
            return NONE;
        }
        switch (what) {
            case 0: return disk.at(page, 0);
            case 1: return disk.at(page, 1);
            case 2: return disk.recordBytes(page);
            default: return NONE;
        }
    }

    public int record(int page, int r, int what, int j) {
        if (disk.kindOf(page) != KIND_BUCKET || r < 0 || r >= disk.at(page, 1)) {
            return NONE;
        }
        int start = disk.recordStart(page, r);
        int keySize = disk.at(page, start);
        if (what == 0) {
            return j >= 0 && j < keySize ? disk.at(page, start + 2 + j) : NONE;
        }
        if (what == 1) {
            return j >= 0 && j < disk.at(page, start + 1) ? disk.at(page, start + 2 + keySize + j) : NONE;
        }
        return NONE;
    }

    public int look(int what) {
        switch (what) {
            case 0: return disk.pages();
            case 1: return disk.log();
            case 2: return disk.depth();
            case 3: return disk.countKind(KIND_BUCKET);
            case 4: return disk.countKind(KIND_FREE);
            case 5: return disk.countRecords();
            case 6: return disk.writes();
            case 7: return disk.isDown() ? 1 : 0;
            case 8: return disk.allowed();
            case 9: return tape.size();
            case 10: return disk.at(JOURNAL_PAGE, 0);
            default: return NONE;
        }
    }

    /** Doubles and splits until the record on the tape has a place in its bucket. */
    private int makePlace(int hash, int keySize, int size) {
        for (int step = 0; step < MOST_STEPS; step++) {
            int page = disk.bucketOf(hash);
            if (hasPlace(page, keySize, size)) {
                return DONE;
            }
            if (disk.allHashesAre(page, hash)) {
                return ALIKE;
            }
            int depth = disk.depth();
            int status = disk.at(page, 0) == depth ? resizeDirectory(depth + 1) : split(page, hash);
            if (status != DONE) {
                return status;
            }
        }
        return DISK;
    }

    private boolean hasPlace(int page, int keySize, int size) {
        int old = disk.find(page, tape, keySize);
        int others = disk.recordBytes(page) - (old == NONE ? 0 : disk.recordSize(page, old));
        return others + 2 + size <= BUCKET_ROOM;
    }

    private int storeRecord(int page, int keySize, int size) {
        buildWithout(page, disk.find(page, tape, keySize));
        built.addRecord(tape, keySize, size);
        return disk.write(page, built) ? DONE : DOWN;
    }

    private void buildWithout(int page, int old) {
        built.startBucket(disk.at(page, 0));
        addRecordsBut(page, old);
    }

    /** Adds the records of a page to the bucket being built, but for the one that begins at old (NONE: all of them). */
    private void addRecordsBut(int page, int old) {
        int count = disk.at(page, 1);
        int start = RECORDS_START;
        for (int r = 0; r < count; r++) {
            if (start != old) {
                built.copyRecord(disk, page, start);
            }
            start += disk.recordSize(page, start);
        }
    }

    /** The DOUBLING (depth one more than DEPTH) and the HALVING (one less): both lay out every page and the HEAD. */
    private int resizeDirectory(int depth) {
        int before = pagesFor(disk.depth());
        int needed = pagesFor(depth);
        if (disk.countKind(KIND_FREE) < needed - before) {
            return DISK;
        }
        if (needed + 1 > disk.log()) {
            return LOG;
        }
        change.begin();
        head.clear();
        head.set(0, depth);
        int free = NONE;
        for (int k = 0; k < needed; k++) {
            int place = disk.directoryPage(k);
            if (k >= before) {
                free = disk.freeBehind(free);
                place = free;
            }
            head.set(1 + k, place);
            buildDirectoryPage(k, depth);
            if (!change.add(built, place)) {
                return DOWN;
            }
        }
        return change.add(head, HEAD_PAGE) && change.finish() ? DONE : DOWN;
    }

    private void buildDirectoryPage(int k, int depth) {
        boolean doubling = depth > disk.depth();
        int first = k * PAGE_SIZE;
        int entries = 1 << depth;
        built.clear();
        for (int j = 0; j < PAGE_SIZE && first + j < entries; j++) {
            int i = first + j;
            built.set(j, disk.entryAt(doubling ? i / 2 : 2 * i));
        }
    }

    private int split(int page, int hash) {
        int own = disk.at(page, 0);
        int span = 1 << (disk.depth() - own);
        int first = disk.indexOf(hash) & -span;
        int from = first + span / 2;
        int behind = first + span;
        int added = disk.freeBehind(NONE);
        if (added == NONE) {
            return DISK;
        }
        if (2 + directoryPagesOf(from, behind) > disk.log()) {
            return LOG;
        }
        change.begin();
        buildHalf(page, own, 0);
        if (!change.add(built, page)) {
            return DOWN;
        }
        buildHalf(page, own, 1);
        if (!change.add(built, added)) {
            return DOWN;
        }
        return retell(from, behind, added) && change.finish() ? DONE : DOWN;
    }

    /** Builds the bucket of those records of a page whose hash has the given bit at place own. */
    private void buildHalf(int page, int own, int bit) {
        built.startBucket(own + 1);
        int count = disk.at(page, 1);
        int start = RECORDS_START;
        for (int r = 0; r < count; r++) {
            int hash = disk.recordHash(page, start);
            if (((hash >> (HASH_BITS - 1 - own)) & 1) == bit) {
                built.copyRecord(disk, page, start);
            }
            start += disk.recordSize(page, start);
        }
    }

    /** How many of the directory's pages have one of the entries from .. behind - 1. */
    private static int directoryPagesOf(int from, int behind) {
        return (behind - 1) / PAGE_SIZE - from / PAGE_SIZE + 1;
    }

    /** Adds to the change the directory's pages in which the entries from .. behind - 1 tell another page now. */
    private boolean retell(int from, int behind, int page) {
        int last = (behind - 1) / PAGE_SIZE;
        for (int k = from / PAGE_SIZE; k <= last; k++) {
            int place = disk.directoryPage(k);
            int first = k * PAGE_SIZE;
            disk.read(place, built);
            for (int j = 0; j < PAGE_SIZE; j++) {
                if (first + j >= from && first + j < behind) {
                    built.set(j, page);
                }
            }
            if (!change.add(built, place)) {
                return false;
            }
        }
        return true;
    }

    private int mergeAll(int hash) {
        for (int step = 0; step < MOST_STEPS; step++) {
            int other = mergePartner(hash);
            if (other == NONE) {
                return DONE;
            }
            int status = merge(hash, other);
            if (status != DONE) {
                return status;
            }
        }
        return DONE;
    }

    /** The page that can be merged with the bucket of a hash, as far as depth and bytes go; NONE if there is none. */
    private int mergePartner(int hash) {
        int page = disk.bucketOf(hash);
        int own = disk.at(page, 0);
        if (own <= 0) {
            return NONE;
        }
        int other = disk.entryAt(disk.indexOf(hash) ^ (1 << (disk.depth() - own)));
        if (disk.at(other, 0) != own || disk.recordBytes(page) + disk.recordBytes(other) > MERGE_ROOM) {
            return NONE;
        }
        return other;
    }

    private int merge(int hash, int other) {
        int page = disk.bucketOf(hash);
        int own = disk.at(page, 0);
        int span = 1 << (disk.depth() - own);
        int index = disk.indexOf(hash);
        boolean pageIsFirst = (index & span) == 0;
        int kept = pageIsFirst ? page : other;
        int left = pageIsFirst ? other : page;
        int from = (index | span) & -span;
        if (1 + directoryPagesOf(from, from + span) > disk.log()) {
            return LOG;
        }
        change.begin();
        built.startBucket(own - 1);
        addRecordsBut(kept, NONE);
        addRecordsBut(left, NONE);
        if (!change.add(built, kept)) {
            return DOWN;
        }
        return retell(from, from + span, kept) && change.finish() ? DONE : DOWN;
    }

    private int halveAll() {
        for (int step = 0; step < MOST_STEPS; step++) {
            int depth = disk.depth();
            if (depth <= 0 || disk.hasBucketOfDepth(depth)) {
                return DONE;
            }
            int status = resizeDirectory(depth - 1);
            if (status != DONE) {
                // A change that is too long for the log is left undone; the removal itself stands.
                return status == DOWN ? DOWN : DONE;
            }
        }
        return DONE;
    }

    /** How many pages a directory of this depth needs. */
    private static int pagesFor(int depth) {
        return depth <= 8 ? 1 : 1 << (depth - 8);
    }

    /** The HASH of a key that stands in a row from start on. */
    private static int hashOf(int[] row, int start, int size) {
        int hash = HASH_FACTOR;
        for (int i = start; i < start + size; i++) {
            if (i >= 0 && i < row.length) {
                hash = ((hash ^ row[i]) * HASH_FACTOR) & 65535;
                hash = hash ^ (hash / 32);
            }
        }
        return hash;
    }

    /** The bytes fed; those of a tape that was taken are there until the next feed. */
    private static final class Tape {
        private final int[] bytes;
        private int size;

        Tape() {
            bytes = new int[MOST_TAPE];
            size = 0;
        }

        int size() {
            return size;
        }

        int byteAt(int i) {
            return i >= 0 && i < bytes.length ? bytes[i] : 0;
        }

        void append(int value) {
            if (size >= 0 && size < bytes.length) {
                bytes[size] = value;
                size++;
            }
        }

        int take() {
            int taken = size;
            size = 0;
            return taken;
        }

        int keyHash(int keySize) {
            return hashOf(bytes, 0, keySize);
        }
    }

    /** A page in memory, built ahead of its WRITE. */
    private static final class Page {
        private final int[] bytes;

        Page() {
            bytes = new int[PAGE_SIZE];
        }

        int[] bytes() {
            return bytes;
        }

        int byteAt(int i) {
            return i >= 0 && i < bytes.length ? bytes[i] : 0;
        }

        void set(int i, int value) {
            if (i >= 0 && i < bytes.length) {
                bytes[i] = value & 255;
            }
        }

        void clear() {
            Arrays.fill(bytes, 0);
        }

        void startBucket(int depth) {
            clear();
            set(0, depth);
        }

        void copyRecord(Disk disk, int page, int start) {
            int length = disk.recordSize(page, start);
            int end = countRecord(length);
            for (int i = 0; i < length; i++) {
                set(end + i, disk.at(page, start + i));
            }
        }

        /** The record of a tape with so many bytes, the first of which are the key. */
        void addRecord(Tape tape, int keySize, int size) {
            int end = countRecord(2 + size);
            set(end, keySize);
            set(end + 1, size - keySize);
            for (int i = 0; i < size; i++) {
                set(end + 2 + i, tape.byteAt(i));
            }
        }

        /** Counts one record more in the bucket's first bytes, and tells where that record begins. */
        private int countRecord(int length) {
            int used = byteAt(2) * 256 + byteAt(3);
            set(1, byteAt(1) + 1);
            set(2, (used + length) / 256);
            set(3, (used + length) % 256);
            return RECORDS_START + used;
        }
    }

    /** A CHANGE of pages: the journal's page is built while the images are written. */
    private static final class Change {
        private final Disk disk;
        private final Page journal;
        private final Page image;

        Change(Disk disk) {
            this.disk = disk;
            journal = new Page();
            image = new Page();
        }

        void begin() {
            journal.clear();
        }

        boolean add(Page page, int place) {
            int count = journal.byteAt(0);
            journal.set(0, count + 1);
            journal.set(count + 1, place);
            return disk.write(FIRST_IMAGE + count, page);
        }

        boolean finish() {
            return disk.write(JOURNAL_PAGE, journal) && settle();
        }

        /** What the journal on the disk tells of is done; a recovery does the very same. */
        boolean settle() {
            int count = disk.at(JOURNAL_PAGE, 0);
            for (int i = 0; i < count; i++) {
                disk.read(FIRST_IMAGE + i, image);
                if (!disk.write(disk.at(JOURNAL_PAGE, 1 + i), image)) {
                    return false;
                }
            }
            journal.clear();
            return disk.write(JOURNAL_PAGE, journal);
        }
    }

    /** The bytes of all pages, the power, and what the bytes say. */
    private static final class Disk {
        private final int[] cells;
        private final int[] kinds;
        private boolean kindsAreOld;
        private int pages;
        private int log;
        private int writes;
        private int allowed;
        private boolean down;

        Disk() {
            // One row for the largest disk, used again by each format, keeps the memory of a run small.
            cells = new int[MOST_PAGES * PAGE_SIZE];
            kinds = new int[MOST_PAGES];
        }

        /** A new disk; what the blank page had in it is lost. */
        void wipe(int newPages, int newLog, Page blank) {
            pages = newPages;
            log = newLog;
            writes = 0;
            allow(NONE);
            kindsAreOld = true;
            blank.clear();
            for (int page = 0; page < pages; page++) {
                place(page, blank);
            }
            lay(HEAD_PAGE, 1, log + 2);
            lay(log + 2, 0, log + 3);
        }

        private void place(int page, Page source) {
            if (isPage(page)) {
                System.arraycopy(source.bytes(), 0, cells, page * PAGE_SIZE, PAGE_SIZE);
            }
        }

        private void lay(int page, int i, int value) {
            if (isPage(page) && i >= 0 && i < PAGE_SIZE) {
                cells[page * PAGE_SIZE + i] = value;
            }
        }

        private boolean isPage(int page) {
            return page >= 0 && page < pages && page < MOST_PAGES;
        }

        int pages() {
            return pages;
        }

        int log() {
            return log;
        }

        int writes() {
            return writes;
        }

        int allowed() {
            return allowed;
        }

        boolean isDown() {
            return down;
        }

        /** The power is there, for so many WRITES. */
        void allow(int n) {
            down = false;
            allowed = n;
        }

        /** A WRITE; false if the power went. */
        boolean write(int page, Page source) {
            if (allowed == 0) {
                down = true;
                return false;
            }
            if (allowed > 0) {
                allowed--;
            }
            writes++;
            // Only the HEAD and the directory say what pages are, so other writes leave the kinds as they are.
            if (page == HEAD_PAGE || isPage(page) && kinds[page] == KIND_DIRECTORY) {
                kindsAreOld = true;
            }
            place(page, source);
            return true;
        }

        void read(int page, Page target) {
            if (isPage(page)) {
                System.arraycopy(cells, page * PAGE_SIZE, target.bytes(), 0, PAGE_SIZE);
            }
        }

        int at(int page, int i) {
            if (page < 0 || page >= pages || page >= MOST_PAGES || i < 0 || i >= PAGE_SIZE) {
                return NONE;
            }
            return cells[page * PAGE_SIZE + i];
        }

        int depth() {
            return at(HEAD_PAGE, 0);
        }

        int directoryPage(int k) {
            return at(HEAD_PAGE, 1 + k);
        }

        int entryAt(int i) {
            if (i < 0 || i >= 1 << depth()) {
                return NONE;
            }
            return at(directoryPage(i / PAGE_SIZE), i % PAGE_SIZE);
        }

        /** The entry's number for a hash: its first DEPTH bits. */
        int indexOf(int hash) {
            return hash >> (HASH_BITS - depth());
        }

        int bucketOf(int hash) {
            return entryAt(indexOf(hash));
        }

        int kindOf(int page) {
            if (!isPage(page)) {
                return NONE;
            }
            if (kindsAreOld) {
                learnKinds();
            }
            return kinds[page];
        }

        /** Goes from the last kind to the first, as the first that holds is the one that counts. */
        private void learnKinds() {
            kindsAreOld = false;
            Arrays.fill(kinds, KIND_FREE);
            int depth = at(HEAD_PAGE, 0);
            int needed = pagesFor(depth);
            int entriesEach = Math.min(1 << depth, PAGE_SIZE);
            for (int k = 0; k < needed; k++) {
                int place = at(HEAD_PAGE, 1 + k);
                for (int j = 0; j < entriesEach; j++) {
                    mark(at(place, j), KIND_BUCKET);
                }
            }
            for (int k = 0; k < needed; k++) {
                mark(at(HEAD_PAGE, 1 + k), KIND_DIRECTORY);
            }
            for (int i = 0; i < log; i++) {
                mark(FIRST_IMAGE + i, KIND_IMAGE);
            }
            mark(JOURNAL_PAGE, KIND_JOURNAL);
            mark(HEAD_PAGE, KIND_HEAD);
        }

        private void mark(int page, int kind) {
            if (isPage(page)) {
                kinds[page] = kind;
            }
        }

        int countKind(int kind) {
            int count = 0;
            for (int page = 0; page < pages; page++) {
                if (kindOf(page) == kind) {
                    count++;
                }
            }
            return count;
        }

        /** The first free page with a number above that of page; NONE if there is none. */
        int freeBehind(int page) {
            for (int next = page + 1; next < pages; next++) {
                if (kindOf(next) == KIND_FREE) {
                    return next;
                }
            }
            return NONE;
        }

        int countRecords() {
            int count = 0;
            for (int page = 0; page < pages; page++) {
                if (kindOf(page) == KIND_BUCKET) {
                    count += at(page, 1);
                }
            }
            return count;
        }

        boolean hasBucketOfDepth(int depth) {
            for (int page = 0; page < pages; page++) {
                if (kindOf(page) == KIND_BUCKET && at(page, 0) == depth) {
                    return true;
                }
            }
            return false;
        }

        int recordBytes(int page) {
            return at(page, 2) * 256 + at(page, 3);
        }

        int recordSize(int page, int start) {
            return 2 + at(page, start) + at(page, start + 1);
        }

        /** Where record r of a bucket begins in its page. */
        int recordStart(int page, int r) {
            int start = RECORDS_START;
            for (int i = 0; i < r; i++) {
                start += recordSize(page, start);
            }
            return start;
        }

        int recordHash(int page, int start) {
            return hashOf(cells, page * PAGE_SIZE + start + 2, at(page, start));
        }

        boolean allHashesAre(int page, int hash) {
            int count = at(page, 1);
            int start = RECORDS_START;
            for (int r = 0; r < count; r++) {
                if (recordHash(page, start) != hash) {
                    return false;
                }
                start += recordSize(page, start);
            }
            return true;
        }

        /** Where the record of the key that is the tape's first bytes begins; NONE if there is none. */
        int find(int page, Tape tape, int keySize) {
            int count = at(page, 1);
            int start = RECORDS_START;
            for (int r = 0; r < count; r++) {
                if (at(page, start) == keySize && hasKey(page, start + 2, tape, keySize)) {
                    return start;
                }
                start += recordSize(page, start);
            }
            return NONE;
        }

        private boolean hasKey(int page, int from, Tape tape, int keySize) {
            for (int i = 0; i < keySize; i++) {
                if (at(page, from + i) != tape.byteAt(i)) {
                    return false;
                }
            }
            return true;
        }
    }
}
