import java.util.ArrayList;
import java.util.List;

/**
 * A HashPages under test that is never asked for more than the 512 calls the document allows. The calls that may
 * change it are kept; when its calls are used up, a new object is made and told these again, and the reading goes on
 * there.
 */
final class Subject {
    private static final int MOST_CALLS = 512;

    private interface Step {
        int on(HashPages map);
    }

    private final List<Step> told = new ArrayList<>();
    private HashPages map = new HashPages();
    private int calls = 0;

    static Subject formatted(int pages, int log) {
        Subject subject = new Subject();
        subject.format(pages, log);
        return subject;
    }

    private void renew() {
        map = new HashPages();
        for (Step step : told) {
            try {
                step.on(map);
            } catch (RuntimeException thrown) {
                // It was looked at when the call was first made.
                continue;
            }
        }
        calls = told.size();
    }

    private void makeRoom() {
        if (told.size() >= MOST_CALLS) {
            throw new AssertionError("this test asks an object for more than 512 calls");
        }
        if (calls >= MOST_CALLS) {
            renew();
        }
        calls++;
    }

    private int change(Step step) {
        makeRoom();
        told.add(step);
        return step.on(map);
    }

    private HashPages read() {
        makeRoom();
        return map;
    }

    void format(int pages, int log) {
        change(map -> {
            map.format(pages, log);
            return 0;
        });
    }

    int feed(int n, long a, long b) {
        return change(map -> map.feed(n, a, b));
    }

    int put(int keySize) {
        return change(map -> map.put(keySize));
    }

    int remove() {
        return change(HashPages::remove);
    }

    int get() {
        return change(HashPages::get);
    }

    void power(int n) {
        change(map -> {
            map.power(n);
            return 0;
        });
    }

    int recover(int n) {
        return change(map -> map.recover(n));
    }

    int answer(int i) {
        return read().answer(i);
    }

    int byteOf(int page, int i) {
        return read().byteOf(page, i);
    }

    int kind(int page) {
        return read().kind(page);
    }

    int hash() {
        return read().hash();
    }

    int entry(int i) {
        return read().entry(i);
    }

    int bucket(int page, int what) {
        return read().bucket(page, what);
    }

    int record(int page, int r, int what, int j) {
        return read().record(page, r, what, j);
    }

    int look(int what) {
        return read().look(what);
    }

    /** Feeds the bytes with as few calls as can be. */
    void feed(List<Integer> bytes) {
        for (int from = 0; from < bytes.size(); from += 16) {
            int n = Math.min(16, bytes.size() - from);
            feed(n, Keys.word(bytes, from, from + 8), Keys.word(bytes, from + 8, from + 16));
        }
    }

    /** Feeds so many bytes, all of them alike. */
    void fill(int count, int value) {
        List<Integer> bytes = new ArrayList<>();
        for (int i = 0; i < count; i++) {
            bytes.add(value);
        }
        feed(bytes);
    }

    int put(List<Integer> key, int valueSize, int value) {
        List<Integer> bytes = new ArrayList<>(key);
        for (int i = 0; i < valueSize; i++) {
            bytes.add(value);
        }
        feed(bytes);
        return put(key.size());
    }

    /** Puts the keys, each with a value of 32 bytes that are the key's first one; all are due to be DONE. */
    void putAll(List<List<Integer>> keys) {
        for (List<Integer> key : keys) {
            Check.same("put of " + key, put(key, 32, key.get(0)), HashPages.DONE);
        }
    }

    int remove(List<Integer> key) {
        feed(key);
        return remove();
    }

    /** Removes the keys; all are due to be there. */
    void removeAll(List<List<Integer>> keys) {
        for (List<Integer> key : keys) {
            Check.same("remove of " + key, remove(key), HashPages.DONE);
        }
    }

    int get(List<Integer> key) {
        feed(key);
        return get();
    }

    /** A page's bytes, all 256 of them, against those that are due; what is not told is due to be 0. */
    void pageIs(String what, int page, int... due) {
        for (int i = 0; i < 256; i++) {
            Check.same(what + ": byte " + i + " of page " + page, byteOf(page, i), i < due.length ? due[i] : 0);
        }
    }

    /** All bytes of the disk. */
    int[] bytes() {
        int[] bytes = new int[look(0) * 256];
        for (int i = 0; i < bytes.length; i++) {
            bytes[i] = byteOf(i / 256, i % 256);
        }
        return bytes;
    }

    /** All that can be read, but for the tape: to see that a call has changed nothing else. */
    List<Integer> state() {
        List<Integer> state = new ArrayList<>();
        for (int what = 0; what <= 10; what++) {
            state.add(what == 9 ? 0 : look(what));
        }
        for (int b : bytes()) {
            state.add(b);
        }
        for (int i = 0; i < 33; i++) {
            state.add(answer(i));
        }
        return state;
    }
}
