/** Counts and prints answers that are not as due. */
final class Check {
    interface Call {
        long answer();
    }

    private static int wrong = 0;

    private Check() {
    }

    static void due(String what, long want, Call call) {
        String got;
        try {
            got = Long.toString(call.answer());
        } catch (RuntimeException e) {
            got = e.getClass().getSimpleName();
        }
        same(what, Long.toString(want), got);
    }

    /** The very class of the exception is due, not one below it. */
    static void refused(String what, Class<? extends RuntimeException> want, Call call) {
        String got;
        try {
            got = Long.toString(call.answer());
        } catch (RuntimeException e) {
            got = e.getClass().getSimpleName();
        }
        same(what, want.getSimpleName(), got);
    }

    static void same(String what, String want, String got) {
        if (!want.equals(got)) {
            wrong++;
            if (wrong <= 50) {
                System.out.println(what + " answered " + got + ", due is " + want);
            }
        }
    }

    static int wrong() {
        return wrong;
    }

    static void end() {
        if (wrong != 0) {
            System.out.println(wrong + " answers are not as due");
            System.exit(1);
        }
    }
}
