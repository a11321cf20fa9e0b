import java.util.ArrayList;
import java.util.List;

/** Parts 2 and 4: the power goes at each write of a call in turn, and what is there after it comes again. */
public final class PowerCutTest {
    /** What the last call of a run is; all runs of a scene have the same calls ahead of it. */
    private interface Scene {
        void prepare(Pair pair);

        String last(Pair pair);

        List<List<Integer>> keys();

        List<Integer> lastKey();
    }

    private static Scene scene(int pages, int log, List<List<Integer>> puts, List<List<Integer>> removes,
            List<Integer> lastKey, boolean removing) {
        return new Scene() {
            public void prepare(Pair pair) {
                pair.format(pages, log);
                for (List<Integer> key : puts) {
                    pair.put(key, 32, key.get(0));
                }
                for (List<Integer> key : removes) {
                    pair.remove(key);
                }
            }

            public String last(Pair pair) {
                return removing ? pair.remove(lastKey) : pair.put(lastKey, 32, lastKey.get(0));
            }

            public List<List<Integer>> keys() {
                List<List<Integer>> left = new ArrayList<>(puts);
                left.removeAll(removes);
                left.remove(lastKey);
                return left;
            }

            public List<Integer> lastKey() {
                return lastKey;
            }
        };
    }

    private static void allThere(String when, Pair pair, Scene scene) {
        for (List<Integer> key : scene.keys()) {
            Check.same(when + "a key that was there", Long.parseLong(pair.get(key)), 32);
            Check.same(when + "its value", pair.map.answer(0), key.get(0));
        }
    }

    /** The call is cut at each of its writes; then the recovery is cut at each of its own. */
    private static void cutEverywhere(String name, Scene scene) {
        Pair whole = new Pair(name);
        scene.prepare(whole);
        int before = whole.map.look(6);
        Check.same(name + ": whole", Long.parseLong(scene.last(whole)), 0);
        int writes = whole.map.look(6) - before;
        for (int n = 0; n < writes; n++) {
            cutAt(name + " cut at " + n + ": ", scene, n);
        }
        Pair enough = new Pair(name);
        scene.prepare(enough);
        enough.power(writes);
        Check.same(name + ": enough power", Long.parseLong(scene.last(enough)), 0);
        Check.same(name + ": none left", enough.map.look(8), 0);
    }

    private static void cutAt(String when, Scene scene, int n) {
        Pair pair = new Pair(when);
        scene.prepare(pair);
        pair.power(n);
        int before = pair.map.look(6);
        Check.same(when + "the call", Long.parseLong(scene.last(pair)), HashPages.DOWN);
        Check.same(when + "writes", pair.map.look(6) - before, n);
        pair.everything();
        int images = pair.map.look(10);
        for (int m = 0; m <= images && images > 0; m++) {
            Check.same(when + "recover(" + m + ")", Long.parseLong(pair.recover(m)), HashPages.DOWN);
            pair.everything();
        }
        Check.same(when + "recover", Long.parseLong(pair.recover(images == 0 ? 0 : images + 1)), HashPages.DONE);
        pair.recover(-1);
        pair.everything();
        Check.same(when + "no images are told of", pair.map.look(10), 0);
        allThere(when, pair, scene);
        scene.last(pair);
        pair.everything();
        allThere(when, pair, scene);
    }

    public static void main(String[] args) {
        List<List<Integer>> none = new ArrayList<>();
        List<List<Integer>> zeros = Keys.withPrefix(0, 1, 5);
        List<List<Integer>> ones = Keys.withPrefix(1, 1, 4);
        cutEverywhere("double and split", scene(12, 3, Keys.joined(zeros.subList(0, 4), ones.subList(0, 3)), none,
            ones.get(3), false));
        cutEverywhere("merge and halve", scene(12, 3, Keys.joined(zeros.subList(0, 4), ones), zeros.subList(0, 4),
            ones.get(0), true));
        List<List<Integer>> low = Keys.withPrefix(2, 9, 4);
        List<List<Integer>> high = Keys.withPrefix(3, 9, 4);
        cutEverywhere("many doublings and splits", scene(64, 8, Keys.joined(low, high.subList(0, 3)), none,
            high.get(3), false));
        cutEverywhere("many merges and halvings", scene(64, 8, Keys.joined(low, high), low, high.get(0), true));
        low = Keys.withPrefix(1022, 10, 4);
        high = Keys.withPrefix(1023, 10, 4);
        cutEverywhere("four directory pages, from behind", scene(40, 5, Keys.joined(low, high), low, high.get(0), true));
        cutEverywhere("four directory pages, up", scene(40, 5, Keys.joined(low, high.subList(0, 3)), none,
            high.get(3), false));
        Check.end();
    }
}
