import java.util.ArrayList;
import java.util.Arrays;
import java.util.List;

/** A HashPages and a Model that take the same calls; the answers, exceptions and bytes of the two are compared. */
final class Pair {
    final Subject map = new Subject();
    final Model model = new Model();
    private final String name;
    private int calls = 0;
    private int[][] compared = new int[0][];

    Pair(String name) {
        this.name = name;
    }

    private static String outcome(Check.Call call) {
        try {
            return Long.toString(call.run());
        } catch (RuntimeException thrown) {
            return "throws." + thrown.getClass().getSimpleName();
        }
    }

    /** As Check.same; the text is made only where the answer is wrong, as there are millions of answers. */
    private void same(String what, int page, int i, int got, int due) {
        if (got != due) {
            Check.same(name + ", call " + calls + ": " + what + " " + page + " " + i, got, due);
        } else {
            Check.good();
        }
    }

    private String both(String what, Check.Call ours, Check.Call due) {
        calls++;
        String got = outcome(ours);
        String want = outcome(due);
        Check.holds(name + ", call " + calls + ": " + what + " answered " + got + ", due is " + want, got.equals(want));
        return got;
    }

    void format(int pages, int log) {
        both("format(" + pages + ", " + log + ")", () -> {
            map.format(pages, log);
            return 0;
        }, () -> {
            model.format(pages, log);
            return 0;
        });
    }

    void feed(int n, long a, long b) {
        both("feed(" + n + ", " + a + ", " + b + ")", () -> map.feed(n, a, b), () -> model.feed(n, a, b));
    }

    void feed(List<Integer> bytes) {
        for (int from = 0; from < bytes.size(); from += 16) {
            int n = Math.min(16, bytes.size() - from);
            feed(n, Keys.word(bytes, from, from + 8), Keys.word(bytes, from + 8, from + 16));
        }
    }

    String put(int keySize) {
        return both("put(" + keySize + ")", () -> map.put(keySize), () -> model.put(keySize));
    }

    String put(List<Integer> key, int valueSize, int fill) {
        List<Integer> all = new ArrayList<>(key);
        for (int i = 0; i < valueSize; i++) {
            all.add((fill + i) & 255);
        }
        feed(all);
        return put(key.size());
    }

    String remove() {
        return both("remove()", map::remove, model::remove);
    }

    String remove(List<Integer> key) {
        feed(key);
        return remove();
    }

    String get() {
        String got = both("get()", map::get, model::get);
        for (int i = -1; i <= 33; i++) {
            same("answer", i, 0, map.answer(i), model.answer(i));
        }
        return got;
    }

    String get(List<Integer> key) {
        feed(key);
        return get();
    }

    void power(int n) {
        both("power(" + n + ")", () -> {
            map.power(n);
            return 0;
        }, () -> {
            model.power(n);
            return 0;
        });
    }

    String recover(int n) {
        return both("recover(" + n + ")", () -> map.recover(n), () -> model.recover(n));
    }

    void hash() {
        both("hash()", map::hash, model::hash);
    }

    void looks() {
        for (int what = -1; what <= 11; what++) {
            same("look", what, 0, map.look(what), model.look(what));
        }
    }

    /** The kinds, the entries, and the pages whose bytes are due to be others than when they were last compared. */
    void whatChanged() {
        compare(false);
    }

    /** Every byte, kind and entry, and what bucket() and record() tell of a bucket at the edges. */
    void everything() {
        compare(true);
    }

    private void compare(boolean all) {
        looks();
        int[] kinds = model.kinds();
        int[][] bytes = model.bytes();
        for (int page = 0; page < kinds.length; page++) {
            same("kind", page, 0, map.kind(page), kinds[page]);
            if (all || compared.length != bytes.length || !Arrays.equals(bytes[page], compared[page])) {
                page(page, kinds[page], bytes[page]);
            }
        }
        compared = bytes;
        entries();
    }

    private void page(int page, int kind, int[] due) {
        for (int i = 0; i < 256; i++) {
            same("byteOf", page, i, map.byteOf(page, i), due[i]);
        }
        if (kind == 5) {
            bucket(page);
        } else {
            same("bucket", page, 0, map.bucket(page, 0), -1);
            same("record", page, 0, map.record(page, 0, 0, 0), -1);
        }
    }

    private void entries() {
        int entries = 1 << model.look(2);
        int step = Math.max(1, entries / 16 - 1);
        for (int i = -1; i <= entries; i += i < 0 ? 1 : step) {
            same("entry", i, 0, map.entry(i), model.entry(i));
        }
        same("entry", entries - 1, 0, map.entry(entries - 1), model.entry(entries - 1));
        same("entry", entries, 0, map.entry(entries), -1);
    }

    private void bucket(int page) {
        for (int what = -1; what <= 3; what++) {
            same("bucket", page, what, map.bucket(page, what), model.bucket(page, what));
        }
        int count = model.bucket(page, 1);
        for (int what = -1; what <= 2; what++) {
            same("record -1, what " + what + ", page", page, 0, map.record(page, -1, what, 0), -1);
            same("record behind the last, what " + what + ", page", page, 0, map.record(page, count, what, 0), -1);
        }
        for (int r = 0; r < count; r++) {
            record(page, r, 0);
            record(page, r, 1);
            same("record, what -1, page", page, r, map.record(page, r, -1, 0), -1);
            same("record, what 2, page", page, r, map.record(page, r, 2, 0), -1);
        }
    }

    private void record(int page, int r, int what) {
        List<Integer> due = model.recordPart(page, r, what);
        for (int j = 0; j < due.size(); j++) {
            same("record", page, r, map.record(page, r, what, j), due.get(j));
        }
        same("record, byte -1, page", page, r, map.record(page, r, what, -1), -1);
        same("record, byte behind the last, page", page, r, map.record(page, r, what, due.size()), -1);
    }
}
