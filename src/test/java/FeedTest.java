/** Promises 3 and 12, and what part 1 says of the HASH. */
public final class FeedTest {
    private static final int[] FAR = {Integer.MIN_VALUE, -16, -1, 32, 48, 256, 272, Integer.MAX_VALUE};

    /** The bytes of both words, in the order in which the document takes them. */
    private static final long A = 0xF877665544332211L;
    private static final long B = 0x80EEDDCCBBAA9900L;
    private static final int[] BYTES = {0x11, 0x22, 0x33, 0x44, 0x55, 0x66, 0x77, 0xF8, 0, 0x99, 0xAA, 0xBB, 0xCC, 0xDD,
        0xEE, 0x80};

    private static void firstBytes() {
        Check.sentence("promise 3", "The n first bytes of a and b (first those of a, of each the lowest one first)");
        for (int n = 1; n <= 16; n++) {
            Subject map = new Subject();
            Check.same("feed(" + n + ")", map.feed(n, A, B), n);
            Check.same("put", map.put(n), HashPages.DONE);
            for (int i = 0; i < n; i++) {
                Check.same("byte " + i + " of " + n, map.record(11, 0, 0, i), BYTES[i]);
            }
            Check.same("byte " + n + " of " + n, map.record(11, 0, 0, n), -1);
        }
    }

    private static void behindTheTape() {
        Check.sentence("promise 3", "come behind the tape: how many it has");
        Subject map = new Subject();
        Check.same("feed(2)", map.feed(2, 0x0201, 0), 2);
        Check.same("feed(9)", map.feed(9, 0x0A09080706050403L, 0x0B), 11);
        Check.same("feed(1)", map.feed(1, 0x0C, -1), 12);
        Check.same("look(9)", map.look(9), 12);
        Check.same("put", map.put(12), HashPages.DONE);
        for (int i = 0; i < 12; i++) {
            Check.same("byte " + i, map.record(11, 0, 0, i), i + 1);
        }
        Check.same("behind put() the tape begins anew", map.feed(3, 1, 1), 3);
    }

    private static void nOf1To16() {
        Check.sentence("promise 3", "IllegalArgumentException: n is not 1 to 16");
        Subject map = new Subject();
        Check.fails("feed(0)", IllegalArgumentException.class, () -> map.feed(0, A, B));
        Check.same("feed(1)", map.feed(1, A, B), 1);
        Check.same("feed(16)", map.feed(16, A, B), 17);
        Check.fails("feed(17)", IllegalArgumentException.class, () -> map.feed(17, A, B));
        for (int far : FAR) {
            Check.fails("feed(" + far + ")", IllegalArgumentException.class, () -> map.feed(far, A, B));
        }
        Check.same("the tape stays", map.look(9), 17);
        Check.same("put", map.put(1), HashPages.DONE);
        Check.same("the key's byte", map.record(11, 0, 0, 0), 0x11);
        for (int i = 0; i < 16; i++) {
            Check.same("byte " + i + " behind it", map.record(11, 0, 1, i), BYTES[i]);
        }
    }

    private static void tapeOf48() {
        Check.sentence("promise 3", "UnsupportedOperationException: it would have more than 48");
        for (int last = 1; last <= 16; last++) {
            Subject map = new Subject();
            map.fill(48 - last, 3);
            Check.same("feed(" + last + ") up to 48", map.feed(last, A, B), 48);
            Check.fails("feed(1) on a full tape", UnsupportedOperationException.class, () -> map.feed(1, A, B));
            Check.fails("feed(16) on a full tape", UnsupportedOperationException.class, () -> map.feed(16, A, B));
            Check.same("the tape stays", map.look(9), 48);
            Subject over = new Subject();
            over.fill(49 - last, 3);
            int n = last;
            Check.fails("feed(" + n + ") up to 49", UnsupportedOperationException.class, () -> over.feed(n, A, B));
            Check.same("the tape stays", over.look(9), 49 - last);
        }
        Subject map = new Subject();
        map.fill(47, 3);
        Check.fails("feed(2) up to 49", UnsupportedOperationException.class, () -> map.feed(2, A, B));
        Check.same("feed(1) up to 48", map.feed(1, 9, 9), 48);
        Check.same("put", map.put(16), HashPages.DONE);
        Check.same("the byte ahead of the last", map.record(11, 0, 1, 30), 3);
        Check.same("the last byte", map.record(11, 0, 1, 31), 9);
    }

    private static void firstNamed() {
        Check.sentence("promise 3", "of two exceptions the one named first is thrown");
        Subject map = new Subject();
        map.fill(48, 1);
        for (int n : new int[] {0, -1, 17, Integer.MIN_VALUE, Integer.MAX_VALUE}) {
            Check.fails("feed(" + n + ") on a full tape", IllegalArgumentException.class, () -> map.feed(n, 1, 1));
        }
        Check.fails("feed(1) on a full tape", UnsupportedOperationException.class, () -> map.feed(1, 1, 1));
    }

    private static void whileDown() {
        Check.sentence("promise 3", "(no exception for a disk that is DOWN)");
        Subject map = new Subject();
        map.power(0);
        Check.same("put", map.put(Keys.of(1), 0, 0), HashPages.DOWN);
        Check.same("feed(5) while DOWN", map.feed(5, A, B), 5);
        Check.same("hash() while DOWN", map.hash(), hashOf(0x11, 0x22, 0x33, 0x44, 0x55));
        Check.same("bytes of the tape while DOWN", map.look(9), 5);
    }

    private static int hashOf(int... bytes) {
        Subject map = new Subject();
        map.feed(Keys.of(bytes));
        return map.hash();
    }

    /** The hashes stand here as reckoned by another program, straight from the document. */
    private static void hashes() {
        Check.sentence("part 1", "The HASH of a key has 16 bits: from 40503 on, for each of its bytes b (0 to 255) first "
            + "h = (h exclusive or b) * 40503 modulo 65536, then, for each byte too, h = h exclusive or h / 32 (cut).");
        int[][] due = {{59567, 0}, {21270, 1}, {29427, 127}, {2827, 128}, {34975, 255}, {6329, 97},
            {41679, 97, 111, 110, 101}, {12486, 1, 2}, {64148, 2, 1}, {63589, 0, 0},
            {26915, 255, 255, 255, 255, 255, 255, 255, 255, 255, 255, 255, 255, 255, 255, 255, 255},
            {55967, 0, 0, 0, 0, 0, 0, 0, 0, 0, 0, 0, 0, 0, 0, 0, 0},
            {31531, 1, 2, 3, 4, 5, 6, 7, 8, 9, 10, 11, 12, 13, 14, 15, 16},
            {55057, 240, 241, 242, 243, 244, 245, 246, 247, 248, 249, 250, 251, 252, 253, 254, 255},
            {0, 214, 85}, {65535, 83, 53}, {32768, 68, 247}};
        for (int[] row : due) {
            Subject map = new Subject();
            for (int i = 1; i < row.length; i++) {
                map.feed(1, row[i], 0);
            }
            Check.same("hash of " + (row.length - 1) + " bytes, the first " + row[1], map.hash(), row[0]);
        }
    }

    private static void hashOfTheTape() {
        Check.sentence("promise 12", "The HASH of the key that is the tape (which stays)");
        Subject map = new Subject();
        map.feed(Keys.of(97, 111, 110, 101));
        Check.same("hash()", map.hash(), 41679);
        Check.same("bytes of the tape", map.look(9), 4);
        Check.same("hash() again", map.hash(), 41679);
        Check.same("put of the tape", map.put(1), HashPages.DONE);
        Check.same("its first byte", map.record(11, 0, 0, 0), 97);
        Check.same("its last byte", map.record(11, 0, 1, 2), 101);
        Check.sentence("promise 12", "NONE, if it has not 1 to 16 bytes");
        Subject counted = new Subject();
        Check.same("hash of no bytes", counted.hash(), -1);
        for (int size = 1; size <= 48; size++) {
            counted.feed(1, 255, 0);
            if (size == 1) {
                Check.same("hash of 1 byte", counted.hash(), 34975);
            } else if (size == 16) {
                Check.same("hash of 16 bytes", counted.hash(), 26915);
            } else {
                Check.holds("hash of " + size + " bytes is " + (size < 16 ? "one" : "NONE"),
                    counted.hash() >= 0 == size <= 16);
            }
            Check.same("the tape stays", counted.look(9), size);
        }
    }

    public static void main(String[] args) {
        firstBytes();
        behindTheTape();
        nOf1To16();
        tapeOf48();
        firstNamed();
        whileDown();
        hashes();
        hashOfTheTape();
        Check.end();
    }
}
