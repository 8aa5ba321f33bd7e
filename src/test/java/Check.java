/** Counts the answers that are not as due, prints each, and ends the test. */
final class Check {
    /** A call that answers nothing or something that does not matter. */
    interface Call {
        void run();
    }

    private static int asked = 0;
    private static int wrong = 0;

    private Check() {
    }

    static void due(String call, long want, long got) {
        asked++;
        if (want != got) {
            wrong++;
            System.out.println(call + " answered " + got + ", due is " + want);
        }
    }

    static void due(String call, boolean want, boolean got) {
        due(call, want ? 1 : 0, got ? 1 : 0);
    }

    static void due(String call, String want, String got) {
        asked++;
        if (!want.equals(got)) {
            wrong++;
            System.out.println(call + " answered " + got + ", due is " + want);
        }
    }

    static void argument(String call, Call body) {
        thrown(call, IllegalArgumentException.class, body);
    }

    static void state(String call, Call body) {
        thrown(call, IllegalStateException.class, body);
    }

    static void index(String call, Call body) {
        thrown(call, IndexOutOfBoundsException.class, body);
    }

    static void limit(String call, Call body) {
        thrown(call, UnsupportedOperationException.class, body);
    }

    private static void thrown(String call, Class<?> want, Call body) {
        String got = "nothing";
        try {
            body.run();
        } catch (RuntimeException e) {
            got = e.getClass().getSimpleName();
        }
        due("what " + call + " throws", want.getSimpleName(), got);
    }

    static int wrongSoFar() {
        return wrong;
    }

    static void end() {
        System.out.println(asked + " answers looked at, " + wrong + " not as due");
        if (wrong != 0 || asked == 0) {
            System.exit(1);
        }
    }
}
