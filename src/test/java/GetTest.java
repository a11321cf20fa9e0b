import java.util.ArrayList;
import java.util.List;

/** Promises 6 and 7: get, and answer. */
public final class GetTest {
    private static final List<Integer> KEY = Keys.of('k');
    private static final List<Integer> SIXTEEN = Keys.of(1, 2, 3, 4, 5, 6, 7, 8, 9, 10, 11, 12, 13, 14, 15, 16);

    private static void answerIs(String what, Subject map, int size, int value) {
        for (int i = 0; i < size; i++) {
            Check.same(what + ": answer(" + i + ")", map.answer(i), value);
        }
        for (int i : new int[] {-1, size, size + 1, 31 + 1, 255, 256, Integer.MIN_VALUE, Integer.MAX_VALUE}) {
            Check.same(what + ": answer(" + i + ")", map.answer(i), -1);
        }
    }

    private static void valueBecomesTheAnswer() {
        Check.sentence("promise 6", "The tape is a key: its value becomes the ANSWER: how many bytes that has");
        Subject map = new Subject();
        for (int size : new int[] {0, 1, 2, 31, 32}) {
            map.put(Keys.of(size), size, 200 + size);
        }
        for (int size : new int[] {32, 0, 31, 1, 2, 32, 1}) {
            Check.same("get of " + size, map.get(Keys.of(size)), size);
            answerIs("a value of " + size, map, size, 200 + size);
        }
        map.put(SIXTEEN, 4, 40);
        Check.same("get of a key of 16 bytes", map.get(SIXTEEN), 4);
        answerIs("its value", map, 4, 40);
        int writes = map.look(6);
        map.power(0);
        Check.same("get without a WRITE left", map.get(KEY), -1);
        Check.same("get without a WRITE left", map.get(SIXTEEN), 4);
        Check.same("not DOWN", map.look(7), 0);
        Check.same("no WRITE", map.look(6), writes);
    }

    /** Each get that finds nothing comes behind one that has filled the ANSWER. */
    private static void noSuchKey(String what, Subject map, List<Integer> key) {
        Check.same("get ahead of " + what, map.get(KEY), 32);
        Check.same("the ANSWER ahead of " + what, map.answer(31), 9);
        map.feed(key);
        Check.same("get of " + what, map.get(), -1);
        for (int i = 0; i < 33; i++) {
            Check.same("answer(" + i + ") behind " + what, map.answer(i), -1);
        }
        Check.same("the tape behind " + what, map.look(9), 0);
    }

    private static List<Integer> repeated(int count, int value) {
        List<Integer> bytes = new ArrayList<>();
        for (int i = 0; i < count; i++) {
            bytes.add(value);
        }
        return bytes;
    }

    private static void notThere() {
        Check.sentence("promise 6", "NONE, if the key is not there (.. the ANSWER is empty then)");
        Subject map = new Subject();
        map.put(KEY, 32, 9);
        map.put(SIXTEEN, 3, 3);
        noSuchKey("another byte", map, Keys.of('j'));
        noSuchKey("a longer key", map, Keys.of('k', 9));
        noSuchKey("a key of 15 bytes", map, SIXTEEN.subList(0, 15));
        noSuchKey("a key of 16 other bytes", map, repeated(16, 9));
        List<List<Integer>> alike = Keys.threes(6329, 16, 2);
        map.put(alike.get(0), 1, 1);
        noSuchKey("the same HASH", map, alike.get(1));
        map.put(Keys.of('x'), 5, 5);
        map.remove(Keys.of('x'));
        noSuchKey("a key that was removed", map, Keys.of('x'));
        Check.sentence("promise 6", "(also one of no or too many bytes; the ANSWER is empty then)");
        noSuchKey("no bytes", map, Keys.of());
        List<Integer> seventeen = new ArrayList<>(SIXTEEN);
        seventeen.add(17);
        noSuchKey("17 bytes, the first 16 of which are a key", map, seventeen);
        noSuchKey("17 bytes", map, repeated(17, 'k'));
        noSuchKey("48 bytes", map, repeated(48, 'k'));
        Check.same("get of 16 bytes", map.get(SIXTEEN), 3);
        Check.same("get of 1 byte", map.get(KEY), 32);
        noSuchKey("another key of the second half", deeper(), Keys.twos(3, 2, 5).get(4));
    }

    private static Subject deeper() {
        Subject map = new Subject();
        map.putAll(Keys.twos(0, 1, 4));
        map.putAll(Keys.twos(3, 2, 4));
        map.put(KEY, 32, 9);
        Check.same("DEPTH", map.look(2), 1);
        return map;
    }

    private static void tapeIsEmptyThen() {
        Check.sentence("promise 6", "The tape is empty then, also by the exception.");
        Subject map = new Subject();
        map.put(KEY, 2, 9);
        map.feed(KEY);
        Check.same("bytes of the tape", map.look(9), 1);
        Check.same("get", map.get(), 2);
        Check.same("the tape behind get", map.look(9), 0);
        Check.same("get again, of no bytes", map.get(), -1);
        map.feed(Keys.of(1));
        Check.same("get of another key", map.get(), -1);
        Check.same("the tape behind NONE", map.look(9), 0);
        map.fill(20, 1);
        Check.same("get of 20 bytes", map.get(), -1);
        Check.same("the tape behind 20 bytes", map.look(9), 0);
        map.power(0);
        Check.same("put", map.put(KEY, 1, 1), HashPages.DOWN);
        for (int size : new int[] {1, 16, 17, 48}) {
            map.fill(size, 'k');
            Check.fails("get while DOWN", IllegalStateException.class, map::get);
            Check.same("the tape by the exception", map.look(9), 0);
            Check.same("the tape's hash by the exception", map.hash(), -1);
        }
    }

    private static void whileDown() {
        Check.sentence("promise 6", "IllegalStateException: the disk is DOWN.");
        Subject map = new Subject();
        map.put(KEY, 3, 9);
        Check.same("get", map.get(KEY), 3);
        map.power(0);
        Check.same("get without a WRITE left", map.get(KEY), 3);
        Check.same("put", map.put(KEY, 1, 1), HashPages.DOWN);
        Check.fails("get of no bytes while DOWN", IllegalStateException.class, map::get);
        for (int size : new int[] {1, 2, 17}) {
            map.fill(size, 'k');
            Check.fails("get of " + size + " bytes while DOWN", IllegalStateException.class, map::get);
        }
        answerIs("the ANSWER stays by the exception", map, 3, 9);
        map.recover(0);
        Check.same("get when the power is there again", map.get(KEY), 3);
    }

    private static void byteOfTheAnswer() {
        Check.sentence("promise 7", "Byte i of the ANSWER (0 to 255); NONE if there is none such.");
        Subject map = new Subject();
        answerIs("a new object", map, 0, 0);
        map.feed(Keys.of('k', 0, 1, 127, 128, 255));
        map.put(1);
        Check.same("no get yet", map.answer(0), -1);
        Check.same("get", map.get(KEY), 5);
        int[][] due = {{0, 0}, {1, 1}, {2, 127}, {3, 128}, {4, 255}, {5, -1}, {6, -1}, {31, -1}, {32, -1}, {-1, -1},
            {-2, -1}, {Integer.MIN_VALUE, -1}, {Integer.MAX_VALUE, -1}};
        for (int[] call : due) {
            Check.same("answer(" + call[0] + ")", map.answer(call[0]), call[1]);
        }
        map.put(Keys.of(2), 32, 8);
        Check.same("get", map.get(Keys.of(2)), 32);
        Check.same("answer(31)", map.answer(31), 8);
        Check.same("answer(32)", map.answer(32), -1);
        Check.same("a shorter one", map.get(KEY), 5);
        Check.same("nothing is left of the longer one", map.answer(5), -1);
    }

    private static void answerStays() {
        Check.sentence("promise 7", "Byte i of the ANSWER (no call but get and format has another one)");
        Subject map = new Subject();
        map.put(KEY, 2, 255);
        map.get(KEY);
        Check.same("put of another value", map.put(KEY, 2, 1), HashPages.DONE);
        answerIs("behind put", map, 2, 255);
        map.put(Keys.of(1), 4, 4);
        Check.same("remove", map.remove(KEY), HashPages.DONE);
        answerIs("behind remove", map, 2, 255);
        Check.same("remove of none", map.remove(KEY), HashPages.NONE);
        answerIs("behind remove of none", map, 2, 255);
        map.feed(3, 1, 1);
        map.power(1);
        map.recover(0);
        answerIs("behind feed, power and recover", map, 2, 255);
        map.put(1);
        Check.same("DOWN", map.look(7), 1);
        answerIs("while DOWN", map, 2, 255);
        map.recover(-1);
        answerIs("behind the power cut", map, 2, 255);
        map.format(8, 2);
        answerIs("behind format", map, 0, 0);
    }

    public static void main(String[] args) {
        valueBecomesTheAnswer();
        notThere();
        tapeIsEmptyThen();
        whileDown();
        byteOfTheAnswer();
        answerStays();
        Check.end();
    }
}
