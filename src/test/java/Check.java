/** What the tests share: counting wrong answers, and catching the exceptions that the document names. */
final class Check {
    private static int wrong = 0;
    private static int checked = 0;

    private Check() {
    }

    interface Call {
        long run();
    }

    static void same(String what, long got, long due) {
        checked++;
        if (got != due) {
            wrong++;
            if (wrong <= 50) {
                System.out.println(what + " answered " + got + ", due is " + due);
            }
        }
    }

    static void good() {
        checked++;
    }

    static void holds(String what, boolean good) {
        same(what, good ? 1 : 0, 1);
    }

    /** The call throws exactly this class, and no other. */
    static void fails(String what, Class<? extends RuntimeException> due, Call call) {
        String got = "nothing";
        try {
            call.run();
        } catch (RuntimeException thrown) {
            got = thrown.getClass().getSimpleName();
        }
        checked++;
        if (!got.equals(due.getSimpleName())) {
            wrong++;
            System.out.println(what + " throws " + got + ", due is " + due.getSimpleName());
        }
    }

    static int wrong() {
        return wrong;
    }

    static void end() {
        if (wrong != 0) {
            System.out.println(wrong + " of " + checked + " answers are wrong");
            System.exit(1);
        }
        System.out.println(checked + " answers are as due");
    }
}
