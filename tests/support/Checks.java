/** Compares answers with what is due, prints those that differ, and ends a test with exit code 1 if there was one. */
final class Checks {
    /** A call of the face whose answer does not count. */
    interface Call {
        void go();
    }

    private static int made = 0;
    private static int wrong = 0;

    private Checks() {
    }

    static void due(String what, long want, long got) {
        tell(want == got, what + " answered " + got + ", due is " + want);
    }

    static void due(String what, boolean want, boolean got) {
        tell(want == got, what + " answered " + got + ", due is " + want);
    }

    static void due(String what, String want, String got) {
        tell(want.equals(got), what + " answered " + got + ", due is " + want);
    }

    /** The exception must be of the very class that the document names. */
    static void throwing(String what, Class<? extends RuntimeException> want, Call call) {
        String got = "nothing";
        try {
            call.go();
        } catch (RuntimeException e) {
            got = e.getClass().getName();
        }
        tell(want.getName().equals(got), what + " threw " + got + ", due is " + want.getName());
    }

    static void tell(boolean isRight, String fault) {
        made++;
        if (!isRight) {
            wrong++;
            System.out.println(fault);
        }
    }

    static void finish() {
        System.out.println(made + " checks, " + wrong + " wrong");
        if (wrong != 0) {
            System.exit(1);
        }
    }
}
