import java.util.ArrayList;
import java.util.List;
import java.util.function.ToIntFunction;

/** 'A call that throws changes nothing but the tape, as said; of two exceptions the one named first is thrown.' */
public final class ThrowsTest {
    private static final Class<IllegalStateException> STATE = IllegalStateException.class;
    private static final Class<IllegalArgumentException> ARGUMENT = IllegalArgumentException.class;
    private static final Class<UnsupportedOperationException> UNSUPPORTED = UnsupportedOperationException.class;

    /** A call that throws: on a tape of so many bytes, with the power or while DOWN, and how many are left then. */
    private static final class Bad {
        final String name;
        final int tape;
        final Class<? extends RuntimeException> withPower;
        final Class<? extends RuntimeException> whileDown;
        final boolean tapeStays;
        final ToIntFunction<Subject> call;

        Bad(String name, int tape, Class<? extends RuntimeException> withPower,
                Class<? extends RuntimeException> whileDown, boolean tapeStays,
                ToIntFunction<Subject> call) {
            this.name = name;
            this.tape = tape;
            this.withPower = withPower;
            this.whileDown = whileDown;
            this.tapeStays = tapeStays;
            this.call = call;
        }
    }

    private static List<Bad> badCalls() {
        List<Bad> bad = new ArrayList<>();
        int[][] formats = {{7, 2}, {256, 2}, {20, 1}, {255, 101}, {8, 5}, {Integer.MIN_VALUE, Integer.MAX_VALUE}};
        for (int[] disk : formats) {
            bad.add(new Bad("format(" + disk[0] + ", " + disk[1] + ")", 5, ARGUMENT, ARGUMENT, true, map -> {
                map.format(disk[0], disk[1]);
                return 0;
            }));
        }
        for (int n : new int[] {0, 17, Integer.MIN_VALUE, Integer.MAX_VALUE}) {
            bad.add(new Bad("feed(" + n + ")", 5, ARGUMENT, ARGUMENT, true, map -> map.feed(n, 1, 1)));
            bad.add(new Bad("feed(" + n + ") on 48", 48, ARGUMENT, ARGUMENT, true, map -> map.feed(n, 1, 1)));
        }
        bad.add(new Bad("feed(1) on 48", 48, UNSUPPORTED, UNSUPPORTED, true, map -> map.feed(1, 1, 1)));
        bad.add(new Bad("feed(16) on 33", 33, UNSUPPORTED, UNSUPPORTED, true, map -> map.feed(16, 1, 1)));
        int[][] puts = {{0, 3}, {17, 20}, {4, 3}, {1, 34}, {1, 0}, {Integer.MIN_VALUE, 3}, {Integer.MAX_VALUE, 3}};
        for (int[] put : puts) {
            bad.add(new Bad("put(" + put[0] + ") of " + put[1], put[1], ARGUMENT, STATE, false, map -> map.put(put[0])));
        }
        bad.add(new Bad("put(1) of 3", 3, null, STATE, false, map -> map.put(1)));
        bad.add(new Bad("remove of none", 0, ARGUMENT, STATE, false, Subject::remove));
        bad.add(new Bad("remove of 17", 17, ARGUMENT, STATE, false, Subject::remove));
        bad.add(new Bad("remove of 1", 1, null, STATE, false, Subject::remove));
        bad.add(new Bad("get of none", 0, null, STATE, false, Subject::get));
        bad.add(new Bad("get of 1", 1, null, STATE, false, Subject::get));
        bad.add(new Bad("get of 17", 17, null, STATE, false, Subject::get));
        for (int n : new int[] {-2, Integer.MIN_VALUE}) {
            bad.add(new Bad("power(" + n + ")", 5, ARGUMENT, STATE, true, map -> {
                map.power(n);
                return 0;
            }));
            bad.add(new Bad("recover(" + n + ")", 5, ARGUMENT, ARGUMENT, true, map -> map.recover(n)));
        }
        bad.add(new Bad("power(-1)", 5, null, STATE, true, map -> {
            map.power(-1);
            return 0;
        }));
        return bad;
    }

    /** Two buckets, an answer of two bytes, and a power that allows ten writes. */
    private static Subject withPower() {
        Subject map = Subject.formatted(12, 3);
        map.putAll(Keys.twos(0, 1, 4));
        map.putAll(Keys.twos(1, 1, 4));
        map.put(Keys.of('k'), 2, 9);
        map.get(Keys.of('k'));
        map.power(10);
        return map;
    }

    /** The same, cut while a merge is written, with two images told of. */
    private static Subject whileDown() {
        Subject map = withPower();
        map.recover(-1);
        map.removeAll(Keys.twos(0, 1, 4));
        map.power(1 + 3 + 1);
        Check.same("the merge is cut", map.remove(Keys.twos(1, 1, 1).get(0)), HashPages.DOWN);
        Check.same("IMAGES told of", map.look(10), 2);
        return map;
    }

    private static void changesNothing(String when, Subject map, Bad bad, Class<? extends RuntimeException> due) {
        Check.sentence(when, "A call that throws changes nothing but the tape, as said; of two exceptions the one named "
            + "first is thrown");
        List<Integer> before = map.state();
        map.fill(bad.tape, 'k');
        int hash = map.hash();
        Check.fails(bad.name, due, () -> bad.call.applyAsInt(map));
        Check.same(bad.name + ": bytes of the tape", map.look(9), bad.tapeStays ? bad.tape : 0);
        Check.same(bad.name + ": hash of the tape", map.hash(), bad.tapeStays ? hash : -1);
        Check.holds(bad.name + " changes nothing else", map.state().equals(before));
    }

    public static void main(String[] args) {
        for (Bad bad : badCalls()) {
            if (bad.withPower != null) {
                changesNothing("with the power", withPower(), bad, bad.withPower);
            }
            changesNothing("while DOWN", whileDown(), bad, bad.whileDown);
        }
        Check.end();
    }
}
