/** Compares answers with what is due, prints those that differ, and ends a test with exit code 1 if there was one. */
final class Checks {
    /** A call of the face whose answer does not count. */
    interface Call {
        void go();
    }

    private static int made = 0;
    private static int wrong = 0;
    private static String sentence = "";

    private Checks() {
    }

    /** The sentence of the document that the checks from here on are about. */
    static void sentence(String words) {
        sentence = words;
    }

    static void due(String what, long want, long got) {
        tell(want == got, what + " answered " + got + ", due is " + want);
    }

    static void due(String what, boolean want, boolean got) {
        tell(want == got, what + " answered " + got + ", due is " + want);
    }

    static void due(String what, String want, String got) {
        tell(want.equals(got), what + " answered " + got + ", due is " + want);
    }

    /** The exception must be of the very class that the document names. */
    static void throwing(String what, Class<? extends RuntimeException> want, Call call) {
        String got = "nothing";
        try {
            call.go();
        } catch (RuntimeException e) {
            got = e.getClass().getName();
        }
        tell(want.getName().equals(got), what + " threw " + got + ", due is " + want.getName());
    }

    static void index(String what, Call call) {
        throwing(what, IndexOutOfBoundsException.class, call);
    }

    static void argument(String what, Call call) {
        throwing(what, IllegalArgumentException.class, call);
    }

    static void state(String what, Call call) {
        throwing(what, IllegalStateException.class, call);
    }

    static void tell(boolean isRight, String fault) {
        made++;
        if (!isRight) {
            wrong++;
            System.out.println(sentence.isEmpty() ? fault : fault + " [" + sentence + "]");
        }
    }

    static void finish() {
        System.out.println(made + " checks, " + wrong + " wrong");
        if (wrong != 0) {
            System.exit(1);
        }
    }
}
