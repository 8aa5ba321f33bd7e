import java.util.function.Consumer;
import java.util.function.Supplier;

/** Counts the answers that are not as due, prints each, and ends the test. */
final class Check {
    static final Class<?> ARGUMENT = IllegalArgumentException.class;
    static final Class<?> STATE = IllegalStateException.class;
    static final Class<?> INDEX = IndexOutOfBoundsException.class;
    static final Class<?> LIMIT = UnsupportedOperationException.class;

    /** A call that answers nothing or something that does not matter. */
    interface Call {
        void run();
    }

    private static int asked = 0;
    private static int wrong = 0;
    private static String sentence = "";

    private Check() {
    }

    /** The words of the document that the answers from here on are about. */
    static void sentence(String words) {
        sentence = words + ": ";
    }

    static void due(String call, long want, long got) {
        due(call, Long.toString(want), Long.toString(got));
    }

    static void due(String call, boolean want, boolean got) {
        due(call, want ? 1 : 0, got ? 1 : 0);
    }

    static void due(String call, String want, String got) {
        asked++;
        if (!want.equals(got)) {
            wrong++;
            System.out.println(sentence + call + " answered " + got + ", due is " + want);
        }
    }

    static void argument(String call, Call body) {
        thrown(call, ARGUMENT, body);
    }

    static void state(String call, Call body) {
        thrown(call, STATE, body);
    }

    static void index(String call, Call body) {
        thrown(call, INDEX, body);
    }

    static void limit(String call, Call body) {
        thrown(call, LIMIT, body);
    }

    /** The call is refused, and a desk made the same way without it holds just the same. */
    static void refused(String call, Class<?> want, Supplier<RegionDesk> maker, Consumer<RegionDesk> use) {
        RegionDesk desk = maker.get();
        thrown(call, want, () -> use.accept(desk));
        due("all there is behind " + call, Desks.wholly(maker.get()), Desks.wholly(desk));
    }

    private static void thrown(String call, Class<?> want, Call body) {
        String got = "nothing";
        try {
            body.run();
        } catch (RuntimeException e) {
            got = e.getClass().getSimpleName();
        }
        due("what " + call + " throws", want.getSimpleName(), got);
    }

    static int wrongSoFar() {
        return wrong;
    }

    static void end() {
        System.out.println(asked + " answers looked at, " + wrong + " not as due");
        if (wrong != 0 || asked == 0) {
            System.exit(1);
        }
    }
}
