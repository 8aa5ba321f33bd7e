import java.util.Random;
import java.util.function.Supplier;

/** Runs of calls drawn by a fixed seed: the program answers each as the model does. */
public final class ModelTest {
    private static final int RUNS = 5000;
    /** What later calls answer is free. */
    private static final int CALLS = 512;

    private final Random random;
    private final int run;
    private final int reach;
    private final RegionDesk desk = new RegionDesk();
    private final Model model = new Model();
    private final StringBuilder history = new StringBuilder();
    private int used;

    private ModelTest(int run) {
        this.run = run;
        this.random = new Random(77_000 + run);
        this.reach = new int[] {2, 3, 5, 20, 150, 10000}[run % 6];
    }

    public static void main(String[] args) {
        for (int run = 0; run < RUNS && Check.wrongSoFar() == 0; run++) {
            new ModelTest(run).go();
        }
        Check.end();
    }

    private void go() {
        while (used < CALLS && Check.wrongSoFar() == 0) {
            step();
            compare("pile()", desk::pile, model::pile);
        }
        if (Check.wrongSoFar() != 0) {
            System.out.println(history);
        }
    }

    private void step() {
        int kind = random.nextInt(22);
        if (kind < 4) {
            collectAndLay();
        } else if (kind < 6) {
            change("and()", () -> done(desk::and), () -> done(model::and));
        } else if (kind < 8) {
            change("or()", () -> done(desk::or), () -> done(model::or));
        } else if (kind < 11) {
            change("not()", () -> done(desk::not), () -> done(model::not));
        } else if (kind < 12) {
            int column = edge(0, 1);
            change("free(" + column + ")", () -> done(() -> desk.free(column)),
                    () -> done(() -> model.free(column)));
        } else if (kind < 13) {
            int table = edge(0, 3);
            change("keep(" + table + ")", () -> done(() -> desk.keep(table)),
                    () -> done(() -> model.keep(table)));
        } else if (kind < 15) {
            int table = edge(0, 3);
            change("load(" + table + ")", () -> desk.load(table), () -> model.load(table));
        } else if (kind < 16) {
            change("drop()", desk::drop, model::drop);
        } else if (kind < 18) {
            change("within()", desk::within, model::within);
        } else if (kind < 20) {
            askLeast();
        } else {
            askHolds();
        }
    }

    private void collectAndLay() {
        int count = random.nextInt(random.nextInt(8) == 0 ? 14 : 5);
        for (int i = 0; i < count; i++) {
            int a = number();
            int b = number();
            int c = bound();
            boolean strict = random.nextBoolean();
            compare("member(" + a + ", " + b + ", " + c + ", " + strict + ")",
                    () -> desk.member(a, b, c, strict), () -> model.member(a, b, c, strict));
        }
        change("row()", desk::row, model::row);
    }

    private void askLeast() {
        int f = edge(-Math.min(reach, 100), Math.min(reach, 100));
        int g = edge(-Math.min(reach, 100), Math.min(reach, 100));
        compare("least(" + f + ", " + g + ")", () -> desk.least(f, g), () -> model.least(f, g));
        compare("value(0)", () -> desk.value(0), () -> model.value(0));
        compare("value(1)", () -> desk.value(1), () -> model.value(1));
    }

    private void askHolds() {
        int p = edge(-reach, reach);
        int q = edge(-reach, reach);
        int d = random.nextInt(4) == 0 ? edge(1, 1000) : edge(1, 4);
        compare("holds(" + p + ", " + q + ", " + d + ")", () -> desk.holds(p, q, d),
                () -> model.holds(p, q, d));
    }

    /** Mostly above 0, so that many rows have points. */
    private int bound() {
        // Many lines through one point: there it matters which members are strict.
        if (run % 7 == 0 && random.nextInt(4) != 0) {
            return 0;
        }
        return random.nextInt(6) == 0 ? number() : Math.abs(number());
    }

    private int number() {
        return random.nextInt(40) == 0 ? edge(-10000, 10000) : random.nextInt(2 * reach + 1) - reach;
    }

    /** From low to high, now and then one beyond. */
    private int edge(int low, int high) {
        if (random.nextInt(30) == 0) {
            return random.nextBoolean() ? low - 1 : high + 1;
        }
        return low + random.nextInt(high - low + 1);
    }

    private void change(String call, Supplier<Object> got, Supplier<Object> want) {
        compare(call, got, want);
        if (model.pile() == 0) {
            return;
        }
        compare("rows()", desk::rows, model::rows);
        // Reading all of it each time would leave few calls that change something.
        if (random.nextInt(3) == 0) {
            compareRows();
        }
    }

    private void compareRows() {
        for (int r = 0; r < model.rows() && Check.wrongSoFar() == 0; r++) {
            int row = r;
            compare("members(" + r + ")", () -> desk.members(row), () -> model.members(row));
            for (int i = 0; i < 4 * model.members(r); i++) {
                int at = i / 4;
                int what = i % 4;
                compare("part(" + r + ", " + at + ", " + what + ")", () -> desk.part(row, at, what),
                        () -> model.part(row, at, what));
            }
        }
    }

    private void compare(String call, Supplier<Object> got, Supplier<Object> want) {
        used++;
        if (used > CALLS) {
            return;
        }
        String due = answer(want);
        history.append(call).append(" -> ").append(due).append('\n');
        Check.due("run " + run + ": " + call, due, answer(got));
    }

    private static String answer(Supplier<Object> call) {
        try {
            return String.valueOf(call.get());
        } catch (RuntimeException e) {
            return "throws." + e.getClass().getSimpleName();
        }
    }

    private static String done(Runnable call) {
        call.run();
        return "done";
    }
}
