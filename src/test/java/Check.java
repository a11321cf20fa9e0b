import java.util.HashSet;
import java.util.Set;

/** What the tests share: counting wrong answers, and catching the exceptions that the document names. */
final class Check {
    private static final int MOST_TOLD = 50;
    private static final Set<String> SENTENCES = new HashSet<>();

    private static int wrong = 0;
    private static int checked = 0;
    private static String sentence = "";

    private Check() {
    }

    interface Call {
        long run();
    }

    /** The sentence of the document that the checks from here on are about; each wrong answer is told with it. */
    static void sentence(String where, String text) {
        sentence = where + ": '" + text + "': ";
        SENTENCES.add(sentence);
    }

    private static void tellWrong(String what) {
        wrong++;
        if (wrong <= MOST_TOLD) {
            System.out.println(sentence + what);
        }
    }

    static void same(String what, long got, long due) {
        checked++;
        if (got != due) {
            tellWrong(what + " answered " + got + ", due is " + due);
        }
    }

    static void good() {
        checked++;
    }

    static void holds(String what, boolean good) {
        checked++;
        if (!good) {
            tellWrong(what + ": it does not hold");
        }
    }

    /** The call throws exactly this class, and no other. */
    static void fails(String what, Class<? extends RuntimeException> due, Call call) {
        String got = "nothing";
        try {
            call.run();
        } catch (RuntimeException thrown) {
            got = thrown.getClass().getSimpleName();
        }
        checked++;
        if (!got.equals(due.getSimpleName())) {
            tellWrong(what + " throws " + got + ", due is " + due.getSimpleName());
        }
    }

    private static String about() {
        return SENTENCES.isEmpty() ? "" : ", on " + SENTENCES.size() + " sentences of the document";
    }

    static int wrong() {
        return wrong;
    }

    static void end() {
        if (wrong != 0) {
            System.out.println(wrong + " of " + checked + " answers are wrong");
            System.exit(1);
        }
        System.out.println(checked + " answers are as due" + about());
    }
}
