/** Counts and prints answers that are not as due. */
final class Check {
    interface Call {
        long answer();
    }

    private static int wrong = 0;
    private static String during = "";

    private Check() {
    }

    /** Told before what is printed, until the next. */
    static void during(String words) {
        during = words;
    }

    static void due(String what, long want, Call call) {
        same(what, Long.toString(want), answer(call));
    }

    /** The very class of the exception is due, not one below it. */
    static void refused(String what, Class<? extends RuntimeException> want, Call call) {
        same(what, want.getSimpleName(), answer(call));
    }

    /** The number that a call answers, or the name of what it throws. */
    static String answer(Call call) {
        try {
            return Long.toString(call.answer());
        } catch (RuntimeException e) {
            return e.getClass().getSimpleName();
        }
    }

    static void same(String what, String want, String got) {
        if (!want.equals(got)) {
            wrong++;
            if (wrong <= 50) {
                System.out.println(during + what + " answered " + got + ", due is " + want);
            }
        }
    }

    static int wrong() {
        return wrong;
    }

    static void end() {
        if (wrong != 0) {
            System.out.println(wrong + " answers are not as due");
            System.exit(1);
        }
    }
}
