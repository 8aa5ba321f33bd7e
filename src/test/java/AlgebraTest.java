import java.util.ArrayList;
import java.util.List;
import java.util.Random;
import java.util.function.Supplier;

/**
 * Points say what the operations do: of regions drawn by fixed seeds, and, or, not, free, within
 * and least are compared with what holds() answers at many points, most of them on the edges.
 */
public final class AlgebraTest {
    private static final int RUNS = 600;
    private static final int REACH = 6;
    private static final int PARTS = 2;

    /** As many calls of holds() on one desk leave enough for what is made there. */
    private static final int ASKED = 400;

    private final Random random;
    private final String name;

    private AlgebraTest(int run) {
        random = new Random(31_000 + run);
        name = "run " + run + ", ";
    }

    public static void main(String[] args) {
        for (int run = 0; run < RUNS; run++) {
            new AlgebraTest(run).go();
        }
        Check.end();
    }

    private void go() {
        List<int[]> p = draw(1 + random.nextInt(2));
        List<int[]> q = draw(1);
        compareAtPoints(p, q);
        compareWithin(p, q);
        compareFree(p);
        compareLeast(p);
    }

    /** The members of a region of some rows: a, b, c, strict, row. */
    private List<int[]> draw(int rowCount) {
        List<int[]> members = new ArrayList<>();
        for (int r = 0; r < rowCount; r++) {
            int count = 1 + random.nextInt(4);
            for (int i = 0; i < count; i++) {
                int a = random.nextInt(5) - 2;
                int b = a == 0 ? 1 - 2 * random.nextInt(2) : random.nextInt(5) - 2;
                members.add(new int[] {a, b, random.nextInt(9) - 2, random.nextInt(2), r});
            }
        }
        return members;
    }

    private static RegionDesk with(List<int[]> members) {
        RegionDesk desk = new RegionDesk();
        lay(desk, members);
        return desk;
    }

    private static RegionDesk with(List<int[]> p, List<int[]> q) {
        RegionDesk desk = with(p);
        lay(desk, q);
        return desk;
    }

    private static void lay(RegionDesk desk, List<int[]> members) {
        int r = 0;
        for (int[] m : members) {
            if (m[4] != r) {
                desk.row();
                r = m[4];
            }
            desk.member(m[0], m[1], m[2], m[3] == 1);
        }
        desk.row();
        for (int i = 0; i < r; i++) {
            desk.or();
        }
    }

    private static boolean belongs(List<int[]> members, int p, int q, int d) {
        int last = members.get(members.size() - 1)[4];
        for (int r = 0; r <= last; r++) {
            boolean all = true;
            for (int[] m : members) {
                int gap = m[2] * d - m[0] * p - m[1] * q;
                all = all && (m[4] != r || gap > 0 || (gap == 0 && m[3] == 0));
            }
            if (all) {
                return true;
            }
        }
        return false;
    }

    private void compareAtPoints(List<int[]> p, List<int[]> q) {
        atPoints("and", () -> {
            RegionDesk desk = with(p, q);
            desk.and();
            return desk;
        }, (x, y) -> belongs(p, x, y, PARTS) && belongs(q, x, y, PARTS));
        atPoints("or", () -> {
            RegionDesk desk = with(p, q);
            desk.or();
            return desk;
        }, (x, y) -> belongs(p, x, y, PARTS) || belongs(q, x, y, PARTS));
        atPoints("not", () -> {
            RegionDesk desk = with(p);
            desk.not();
            return desk;
        }, (x, y) -> !belongs(p, x, y, PARTS));
        atPoints("and not", () -> {
            RegionDesk desk = with(p, q);
            desk.not();
            desk.and();
            return desk;
        }, (x, y) -> belongs(p, x, y, PARTS) && !belongs(q, x, y, PARTS));
    }

    private interface Place {
        boolean has(int x, int y);
    }

    private void atPoints(String what, Supplier<RegionDesk> maker, Place place) {
        int end = REACH * PARTS;
        int asked = 0;
        RegionDesk desk = maker.get();
        for (int x = -end; x <= end; x++) {
            for (int y = -end; y <= end; y++) {
                if (asked % ASKED == 0) {
                    desk = maker.get();
                }
                asked++;
                Check.due(name + what + " at " + x + ", " + y, place.has(x, y), desk.holds(x, y, PARTS));
            }
        }
    }

    private void compareWithin(List<int[]> p, List<int[]> q) {
        boolean inside = with(p, q).within();
        int end = REACH * PARTS;
        for (int x = -end; x <= end && inside; x++) {
            for (int y = -end; y <= end; y++) {
                boolean fine = !belongs(q, x, y, PARTS) || belongs(p, x, y, PARTS);
                Check.due(name + "within at " + x + ", " + y, true, fine);
            }
        }
    }

    /** With numbers this small, a column with a point has one with a y that is m / 24, |y| <= 40. */
    private void compareFree(List<int[]> p) {
        RegionDesk desk = with(p);
        desk.free(1);
        for (int x = -REACH; x <= REACH; x++) {
            boolean some = false;
            for (int y = -40 * 24; y <= 40 * 24 && !some; y++) {
                some = belongs(p, x * 24, y, 24);
            }
            Check.due(name + "free of y at " + x, some, desk.holds(x, 0, 1));
            Check.due(name + "free of y at " + x, some, desk.holds(x, 77, 1));
        }
    }

    private void compareLeast(List<int[]> p) {
        RegionDesk desk = with(p);
        int f = random.nextInt(7) - 3;
        int g = random.nextInt(7) - 3;
        int kind = desk.least(f, g);
        long top = desk.value(0);
        long base = desk.value(1);
        int end = REACH * PARTS;
        for (int x = -end; x <= end; x++) {
            for (int y = -end; y <= end; y++) {
                if (belongs(p, x, y, PARTS)) {
                    long above = (f * x + g * y) * base - top * PARTS;
                    boolean fine = kind == 2 || (kind == 0 && above >= 0) || (kind == 1 && above > 0);
                    Check.due(name + "least at " + x + ", " + y, true, fine);
                }
            }
        }
    }
}
