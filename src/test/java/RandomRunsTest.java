import java.util.ArrayList;
import java.util.List;
import java.util.Random;

/** Long runs of calls, picked by a fixed seed, answered by the class and by the model. */
public final class RandomRunsTest {
    private static final int[][] DISKS = {
        {8, 2}, {8, 4}, {9, 5}, {12, 3}, {14, 5}, {20, 2}, {20, 4}, {40, 8}, {64, 8}, {100, 3}, {255, 2}, {255, 5},
        {255, 20}, {255, 100}, {104, 100}, {150, 70}, {200, 40}, {31, 18}, {32, 18}, {36, 18},
    };

    private static final int[] DEEP_DISK = {255, 70};
    private static final int STYLES = 6;
    private static final int DEEP = 5;

    private static final String[] EVENTS = {
        "put DONE", "put DISK", "put LOG", "put ALIKE", "put DOWN", "remove DONE", "remove NONE", "remove DOWN",
        "doubling DONE", "doubling DISK", "doubling to many pages DONE", "doubling to many pages LOG",
        "split DONE", "split DISK", "split LOG", "split in many pages DONE", "merge DONE", "merge in many pages DONE",
        "halving DONE", "halving to many pages DONE", "recover DONE", "recover DOWN", "recover with images DONE",
    };

    private static List<List<Integer>> keyPool(Random random, int style) {
        List<List<Integer>> pool = new ArrayList<>();
        if (style == 0) {
            for (int i = 0; i < 60; i++) {
                List<Integer> key = new ArrayList<>();
                int size = 1 + random.nextInt(16);
                for (int j = 0; j < size; j++) {
                    key.add(random.nextInt(256));
                }
                pool.add(key);
            }
        } else if (style == 1) {
            for (int i = 0; i < 120; i++) {
                pool.add(Keys.of(i, random.nextInt(3)));
            }
        } else if (style == 2) {
            int bits = 6 + random.nextInt(8);
            pool.addAll(Keys.withPrefix(random.nextInt(1 << bits), bits, 20));
            pool.addAll(Keys.withPrefix(random.nextInt(1 << bits), bits, 10));
        } else if (style == 3) {
            int hash = random.nextInt(65536);
            pool.addAll(Keys.withHash(hash, 9));
            pool.addAll(Keys.withHash(hash ^ 1, random.nextInt(3)));
            pool.addAll(Keys.withHash(hash ^ 32768, 4));
        } else if (style == 4) {
            pool.addAll(Keys.withHash(random.nextInt(65536), 12));
        } else {
            int bits = 11 + random.nextInt(3);
            int prefix = random.nextInt(1 << bits);
            pool.addAll(Keys.withPrefix(prefix, bits, 16));
            pool.addAll(Keys.withPrefix(1 - (prefix >> (bits - 1)), 1, 24));
        }
        return pool;
    }

    private static void oneCall(Pair pair, Random random, List<List<Integer>> pool, int phase, boolean cuts) {
        List<Integer> key = pool.get(random.nextInt(pool.size()));
        int roll = random.nextInt(100);
        if (pair.model.isDown() && random.nextInt(3) != 0) {
            pair.whatChanged();
            pair.recover(random.nextInt(3) == 0 ? random.nextInt(6) : -1);
        } else if (roll < 3) {
            wild(pair, random);
        } else if (roll < 8 && cuts) {
            pair.power(random.nextInt(4) == 0 ? -1 : random.nextInt(25));
        } else if (roll < 9 && cuts) {
            pair.recover(random.nextInt(2) == 0 ? -1 : random.nextInt(12));
        } else if (roll < 15) {
            pair.get(key);
        } else if ((roll < 85) == (phase == 0)) {
            int size = random.nextInt(3) == 0 ? random.nextInt(33) : 20 + random.nextInt(13);
            pair.put(key, size, random.nextInt(256));
        } else {
            pair.remove(key);
        }
    }

    private static int odd(Random random, int around) {
        int[] wild = {Integer.MIN_VALUE, -2, -1, 0, 1, around - 1, around, around + 1, 255, 256, Integer.MAX_VALUE};
        return wild[random.nextInt(wild.length)];
    }

    private static void wild(Pair pair, Random random) {
        switch (random.nextInt(10)) {
            case 0: pair.feed(odd(random, 16), random.nextLong(), random.nextLong()); pair.hash(); break;
            case 1: pair.put(odd(random, 16)); break;
            case 2: pair.remove(); break;
            case 3: pair.get(); break;
            case 4: pair.power(Math.min(-1, odd(random, 3))); break;
            case 5: pair.recover(Math.min(-1, odd(random, 3))); break;
            case 6: pair.format(odd(random, 8), odd(random, 102)); break;
            case 7: pair.feed(16, random.nextLong(), random.nextLong()); pair.hash(); break;
            default: wildReads(pair, random); break;
        }
    }

    private static void wildReads(Pair pair, Random random) {
        int pages = pair.model.pages();
        int page = random.nextInt(2) == 0 ? odd(random, pages) : pair.model.entry(0);
        int i = odd(random, 256);
        int what = odd(random, 2);
        Check.same("byteOf", pair.map.byteOf(page, i), pair.model.byteOf(page, i));
        Check.same("kind", pair.map.kind(page), pair.model.kind(page));
        Check.same("entry", pair.map.entry(i), pair.model.entry(i));
        Check.same("bucket", pair.map.bucket(page, what), pair.model.bucket(page, what));
        Check.same("record", pair.map.record(page, i, what, 0), pair.model.record(page, i, what, 0));
        Check.same("record", pair.map.record(page, 0, what, i), pair.model.record(page, 0, what, i));
        Check.same("look", pair.map.look(i), pair.model.look(i));
        Check.same("answer", pair.map.answer(i), pair.model.answer(i));
    }

    private static void run(int seed) {
        Random random = new Random(seed);
        Pair pair = new Pair("seed " + seed);
        int style = seed % STYLES;
        int[] disk = style == DEEP ? DEEP_DISK : DISKS[random.nextInt(DISKS.length)];
        pair.format(disk[0], disk[1]);
        List<List<Integer>> pool = keyPool(random, style);
        boolean cuts = random.nextInt(3) != 0;
        int phase = 0;
        for (int call = 0; call < 110; call++) {
            if (call % 40 == 39) {
                phase = 1 - phase;
            }
            oneCall(pair, random, pool, phase, cuts);
            if (call % 10 == 9) {
                pair.whatChanged();
            }
        }
        pair.everything();
    }

    public static void main(String[] args) {
        int runs = args.length > 0 ? Integer.parseInt(args[0]) : 300;
        for (int seed = 1; seed <= runs && Check.wrong() < 50; seed++) {
            run(seed);
        }
        for (String event : EVENTS) {
            Check.holds("the runs come to: " + event, Model.SEEN.containsKey(event));
        }
        Check.end();
    }
}
