import java.util.ArrayList;
import java.util.List;
import java.util.Random;

/**
 * Points say what the operations do: of regions drawn by fixed seeds, and, or, not, free, within
 * and least are compared with what holds() answers at many points, most of them on the edges.
 */
public final class AlgebraTest {
    private static final int RUNS = 600;
    private static final int REACH = 6;
    private static final int PARTS = 2;

    private final Random random;
    private final RegionDesk desk = new RegionDesk();
    private final String name;

    private AlgebraTest(int run) {
        random = new Random(31_000 + run);
        name = "run " + run + ", ";
    }

    public static void main(String[] args) {
        for (int run = 0; run < RUNS; run++) {
            new AlgebraTest(run).go();
        }
        Check.end();
    }

    private void go() {
        List<int[]> p = draw(1 + random.nextInt(2));
        desk.keep(0);
        List<int[]> q = draw(1);
        desk.keep(1);
        compareAtPoints(p, q);
        compareWithin(p, q);
        compareFree(p);
        compareLeast(p);
    }

    /** A region of some rows on the pile, and its members as they were given: a, b, c, strict, row. */
    private List<int[]> draw(int rowCount) {
        List<int[]> members = new ArrayList<>();
        for (int r = 0; r < rowCount; r++) {
            int count = 1 + random.nextInt(4);
            for (int i = 0; i < count; i++) {
                int a = random.nextInt(5) - 2;
                int b = a == 0 ? 1 - 2 * random.nextInt(2) : random.nextInt(5) - 2;
                int[] member = {a, b, random.nextInt(9) - 2, random.nextInt(2), r};
                members.add(member);
                desk.member(a, b, member[2], member[3] == 1);
            }
            desk.row();
            if (r > 0) {
                desk.or();
            }
        }
        return members;
    }

    private static boolean belongs(List<int[]> members, int p, int q, int d) {
        int last = members.get(members.size() - 1)[4];
        for (int r = 0; r <= last; r++) {
            boolean all = true;
            for (int[] m : members) {
                int gap = m[2] * d - m[0] * p - m[1] * q;
                all = all && (m[4] != r || gap > 0 || (gap == 0 && m[3] == 0));
            }
            if (all) {
                return true;
            }
        }
        return false;
    }

    private void compareAtPoints(List<int[]> p, List<int[]> q) {
        loadBoth();
        desk.and();
        atPoints("and", (x, y) -> belongs(p, x, y, PARTS) && belongs(q, x, y, PARTS));
        loadBoth();
        desk.or();
        atPoints("or", (x, y) -> belongs(p, x, y, PARTS) || belongs(q, x, y, PARTS));
        desk.load(0);
        desk.not();
        atPoints("not", (x, y) -> !belongs(p, x, y, PARTS));
        loadBoth();
        desk.not();
        desk.and();
        atPoints("and not", (x, y) -> belongs(p, x, y, PARTS) && !belongs(q, x, y, PARTS));
    }

    private interface Place {
        boolean has(int x, int y);
    }

    private void atPoints(String what, Place place) {
        int end = REACH * PARTS;
        for (int x = -end; x <= end; x++) {
            for (int y = -end; y <= end; y++) {
                Check.due(name + what + " at " + x + ", " + y, place.has(x, y), desk.holds(x, y, PARTS));
            }
        }
        desk.drop();
    }

    private void loadBoth() {
        desk.load(0);
        desk.load(1);
    }

    private void compareWithin(List<int[]> p, List<int[]> q) {
        loadBoth();
        boolean inside = desk.within();
        desk.drop();
        desk.drop();
        int end = REACH * PARTS;
        for (int x = -end; x <= end && inside; x++) {
            for (int y = -end; y <= end; y++) {
                boolean fine = !belongs(q, x, y, PARTS) || belongs(p, x, y, PARTS);
                Check.due(name + "within at " + x + ", " + y, true, fine);
            }
        }
    }

    /** With numbers this small, a column with a point has one with a y that is m / 24, |y| <= 40. */
    private void compareFree(List<int[]> p) {
        desk.load(0);
        desk.free(1);
        for (int x = -REACH; x <= REACH; x++) {
            boolean some = false;
            for (int y = -40 * 24; y <= 40 * 24 && !some; y++) {
                some = belongs(p, x * 24, y, 24);
            }
            Check.due(name + "free of y at " + x, some, desk.holds(x, 0, 1));
            Check.due(name + "free of y at " + x, some, desk.holds(x, 77, 1));
        }
        desk.drop();
    }

    private void compareLeast(List<int[]> p) {
        desk.load(0);
        int f = random.nextInt(7) - 3;
        int g = random.nextInt(7) - 3;
        int kind = desk.least(f, g);
        long top = desk.value(0);
        long base = desk.value(1);
        desk.drop();
        int end = REACH * PARTS;
        for (int x = -end; x <= end; x++) {
            for (int y = -end; y <= end; y++) {
                if (belongs(p, x, y, PARTS)) {
                    long above = (f * x + g * y) * base - top * PARTS;
                    boolean fine = kind == 2 || (kind == 0 && above >= 0) || (kind == 1 && above > 0);
                    Check.due(name + "least at " + x + ", " + y, true, fine);
                }
            }
        }
    }
}
