/** Counts and prints the answers that are not the due ones, and ends a test with its exit code. */
final class Due {
    private static final int MOST_PRINTED = 40;
    private static int wrong = 0;
    private static int asked = 0;

    interface Call {
        long answer();
    }

    private Due() {
    }

    static void answer(String call, long want, long got) {
        asked++;
        if (got != want) {
            tell(call + " answered " + got + ", due is " + want);
        }
    }

    static void holds(String what, boolean yes) {
        answer(what, 1, yes ? 1 : 0);
    }

    /** The call throws exactly this class, not one below it. */
    static void throwing(String name, Class<? extends RuntimeException> want, Call call) {
        asked++;
        String got = outcome(call);
        String due = "throws " + want.getName();
        if (!got.equals(due)) {
            tell(name + ": " + got + ", due is: " + due);
        }
    }

    /** Both calls answer the same or throw the same. */
    static void same(String name, Call due, Call call) {
        asked++;
        String want = outcome(due);
        String got = outcome(call);
        if (!got.equals(want)) {
            tell(name + ": " + got + ", due is: " + want);
        }
    }

    private static String outcome(Call call) {
        try {
            return "answers " + call.answer();
        } catch (RuntimeException e) {
            return "throws " + e.getClass().getName();
        }
    }

    static void finish(String test) {
        System.out.println(test + ": " + asked + " answers, " + wrong + " of them wrong");
        if (wrong != 0) {
            System.exit(1);
        }
    }

    private static void tell(String line) {
        wrong++;
        if (wrong <= MOST_PRINTED) {
            System.out.println(line);
        }
    }
}
