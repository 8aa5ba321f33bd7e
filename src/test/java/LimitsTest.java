import java.util.ArrayList;
import java.util.List;
import java.util.function.Consumer;

/**
 * LIMITS: each of them just kept and just passed, wherever a call can come to it; where it is
 * passed the call is refused, and nothing changes.
 */
public final class LimitsTest extends Desks {
    private LimitsTest() {
    }

    public static void main(String[] args) {
        farB();
        farA();
        farC();
        farInNormalForm();
        farInALaterRow();
        farContraries();
        membersOfAnd();
        membersInNormalForm();
        membersOfNoPoints();
        membersOfNot();
        membersInBetween();
        membersOfWithin();
        rowsOfOr();
        rowsOfAnd();
        rowsWhereTheSameIsThere();
        rowsOfNoPoints();
        rowsOfNot();
        rowsOfParts();
        rowsInBetween();
        rowsOfWithin();
        rowsOfFree();
        twelveTimesTwelve();
        Check.end();
    }

    /** Refused with UnsupportedOperationException, and nothing changes, whatever else is there. */
    private static void refused(String what, Consumer<RegionDesk> use, int[][]... regions) {
        Check.refused(what, Check.LIMIT, () -> {
            RegionDesk desk = furnished();
            for (int[][] region : regions) {
                layAll(desk, region);
            }
            collect(desk, 3, 4, 5, 1, 4, 3, 5, 0);
            return desk;
        }, use);
    }

    private static void farB() {
        Check.sentence("a number of a member below -10000 or above 10000: b");
        Check.due("10000", "[0 10000 1 <=]", free(0, row(1, 9999, 1, 0, -1, 1, 0, 0)));
        refused("10001", desk -> desk.free(0), region(row(1, 10000, 1, 0, -1, 1, 0, 0)));
        Check.due("-10000", "[0 -10000 1 <]", free(0, row(1, -9999, 1, 1, -1, -1, 0, 0)));
        refused("-10001", desk -> desk.free(0), region(row(1, -10000, 1, 0, -1, -1, 0, 1)));
    }

    private static void farA() {
        Check.sentence("a number of a member below -10000 or above 10000: a");
        Check.due("10000", "[10000 0 1 <=]", free(1, row(9999, 1, 1, 0, 1, -1, 0, 0)));
        refused("10001", desk -> desk.free(1), region(row(10000, 1, 1, 0, 1, -1, 0, 0)));
        Check.due("-10000", "[-10000 0 1 <]", free(1, row(-9999, 1, 1, 1, -1, -1, 0, 0)));
        refused("-10001", desk -> desk.free(1), region(row(-10000, 1, 1, 0, -1, -1, 0, 1)));
    }

    private static void farC() {
        Check.sentence("a number of a member below -10000 or above 10000: c");
        Check.due("10000 behind x", "[0 1 10000 <=]", free(0, row(1, 1, 9999, 0, -1, 0, 1, 0)));
        refused("10001 behind x", desk -> desk.free(0), region(row(1, 1, 10000, 0, -1, 0, 1, 0)));
        Check.due("-10000 behind x", "[0 1 -10000 <]", free(0, row(1, 1, -9999, 1, -1, 0, -1, 0)));
        refused("-10001 behind x", desk -> desk.free(0), region(row(1, 1, -10000, 0, -1, 0, -1, 0)));
        Check.due("10000 behind y", "[1 0 10000 <=]", free(1, row(1, 1, 9999, 0, 0, -1, 1, 0)));
        refused("10001 behind y", desk -> desk.free(1), region(row(1, 1, 10000, 0, 0, -1, 1, 0)));
        Check.due("-10000 behind y", "[1 0 -10000 <]", free(1, row(1, 1, -9999, 1, 0, -1, -1, 0)));
        refused("-10001 behind y", desk -> desk.free(1), region(row(1, 1, -10000, 0, 0, -1, -1, 0)));
    }

    private static void farInNormalForm() {
        Check.sentence("looked at for each row that is added, in its normal form: numbers");
        Check.due("20000 and 2", "[0 10000 1 <=]", free(0, row(1, 10000, 1, 0, -1, 10000, 1, 0)));
        Check.due("20000 and 20000", "[0 1 1 <=]", free(0, row(1, 10000, 10000, 0, -1, 10000, 10000, 0)));
        refused("20000 and 1", desk -> desk.free(0), region(row(1, 10000, 1, 0, -1, 10000, 0, 0)));
        Check.due("10001 and 0", "[0 1 0 <=]", free(0, row(1, 10000, 0, 0, -1, 1, 0, 0)));
        Check.due("199990000 and 0", "[0 1 0 <]", free(0, row(10000, 9999, 0, 0, -9999, 10000, 0, 1)));
        refused("two sums beyond 10^8", desk -> desk.free(0), region(row(10000, 9999, 1, 0, -9999, 10000, -1, 1)));
        Check.due("y <= 10001, which y <= 3 implies", "[0 1 3 <=]",
                free(0, row(1, 1, 10000, 0, -1, 0, 1, 0, 0, 1, 3, 0)));
        Check.due("y <= 10001, which y <= 10000 implies", "[0 1 10000 <]",
                free(0, row(1, 1, 10000, 0, -1, 0, 1, 0, 0, 1, 10000, 1)));
        Check.due("2 y <= 19999, which y <= 3 implies", "[0 1 3 <=]",
                free(0, row(1, 1, 10000, 0, -1, 1, 9999, 0, 0, 1, 3, 0)));
        Check.due("0 <= 20000, no member", "[]", free(0, row(1, 0, 10000, 0, -1, 0, 10000, 0)));
    }

    private static void farInALaterRow() {
        Check.sentence("looked at for each row that is added: numbers");
        int[] near = row(1, 9999, 1, 0, -1, 1, 0, 0);
        int[] far = row(1, 10000, 1, 0, -1, 1, 0, 0);
        refused("the first row", desk -> desk.free(0), region(far, near));
        refused("the last row", desk -> desk.free(0), region(near, far));
        refused("a row behind the row without members", desk -> desk.free(0), region(row(), far));
        refused("a row within another", desk -> desk.free(0), region(row(0, 1, 5, 0), far));
        refused("twice the same", desk -> desk.free(0),
                region(far, row(1, 10000, 1, 0, -1, 1, 0, 0, 1, 0, 77, 0)));
    }

    private static void farContraries() {
        Check.sentence("a number of a member below -10000 or above 10000: of contraries");
        Check.due("the highest", "[-10000 -9999 -10000 <]", not(row(10000, 9999, 10000, 0)));
        Check.due("the lowest", "[9999 10000 10000 <=]", not(row(-9999, -10000, -10000, 1)));
    }

    /** y above the parabola's tangents at x = from .. to: none of them is implied by the others. */
    private static int[] tangents(int from, int to) {
        int[] numbers = new int[4 * (to - from + 1)];
        for (int k = from; k <= to; k++) {
            int at = 4 * (k - from);
            numbers[at] = 2 * k;
            numbers[at + 1] = -1;
            numbers[at + 2] = k * k;
        }
        return numbers;
    }

    private static String tangentsTold(int from, int to) {
        StringBuilder text = new StringBuilder("[");
        for (int k = from; k <= to; k++) {
            text.append(k == from ? "" : ", ").append(2 * k).append(" -1 ").append(k * k).append(" <=");
        }
        return text.append(']').toString();
    }

    /** y below the tangent at x = k. */
    private static int[] below(int k) {
        return row(-2 * k, 1, -k * k, 1);
    }

    /** y above the tangent at x = k, for k below 0, and below that at x = j: NOT of it has both above. */
    private static int[] between(int k, int j) {
        return row(2 * k, -1, k * k, 0, -2 * j, 1, -j * j, 1);
    }

    private static int[][] belowAll(int from, int to) {
        int[][] rows = new int[to - from + 1][];
        for (int k = from; k <= to; k++) {
            rows[k - from] = below(k);
        }
        return rows;
    }

    /** The strip 2 i <= x <= 2 i + 1. */
    private static int[] strip(int i) {
        return row(1, 0, 2 * i + 1, 0, -1, 0, -2 * i, 0);
    }

    private static int[][] strips(int from, int to) {
        int[][] rows = new int[to - from + 1][];
        for (int i = from; i <= to; i++) {
            rows[i - from] = strip(i);
        }
        return rows;
    }

    private static String stripsTold(int from, int to) {
        StringBuilder text = new StringBuilder();
        for (int i = from; i <= to; i++) {
            text.append("[-1 0 ").append(-2 * i).append(" <=, 1 0 ").append(2 * i + 1).append(" <=]");
        }
        return text.toString();
    }

    private static int[][] turned(int[][] rows) {
        int[][] turned = new int[rows.length][];
        for (int i = 0; i < rows.length; i++) {
            turned[i] = rows[rows.length - 1 - i];
        }
        return turned;
    }

    /** The rows of these regions, one behind the other. */
    private static int[][] joined(int[][]... regions) {
        List<int[]> rows = new ArrayList<>();
        for (int[][] region : regions) {
            rows.addAll(List.of(region));
        }
        return rows.toArray(new int[0][]);
    }

    private static boolean within(int[][] lower, int[][] upper) {
        RegionDesk desk = withAll(lower);
        layAll(desk, upper);
        return desk.within();
    }

    private static void membersOfAnd() {
        Check.sentence("more than 12 members: and()");
        Check.due("6 and 6", tangentsTold(0, 11), and(region(tangents(0, 5)), region(tangents(6, 11))));
        Check.due("11 and 1", tangentsTold(0, 11), and(region(tangents(0, 10)), region(tangents(11, 11))));
        Check.due("12 and none", tangentsTold(0, 11), and(region(tangents(0, 11)), region(row())));
        refused("6 and 7", desk -> desk.and(), region(tangents(0, 5)), region(tangents(6, 12)));
        refused("12 and 1", desk -> desk.and(), region(tangents(0, 11)), region(tangents(12, 12)));
        refused("1 and 12", desk -> desk.and(), region(tangents(12, 12)), region(tangents(0, 11)));
        refused("12 and 12", desk -> desk.and(), region(tangents(0, 11)), region(tangents(12, 23)));
        refused("12 and 1 in the last row alone", desk -> desk.and(),
                region(row(1, 0, 0, 0), tangents(0, 11)), region(tangents(12, 12)));
    }

    private static void membersInNormalForm() {
        Check.sentence("looked at for each row that is added, in its normal form: members");
        Check.due("12 and the same 12", tangentsTold(0, 11), and(region(tangents(0, 11)), region(tangents(0, 11))));
        Check.due("8 and 8, four the same", tangentsTold(0, 11), and(region(tangents(0, 7)), region(tangents(4, 11))));
        refused("8 and 9, four the same", desk -> desk.and(), region(tangents(0, 7)), region(tangents(4, 12)));
        Check.due("12 and 1 of the same a and b", tangentsTold(0, 11).replace("[0 -1 0 <=", "[0 -1 -1 <="),
                and(region(tangents(0, 11)), region(row(0, -1, -1, 0))));
        Check.due("12 and 1 that implies eleven", "[0 -1 0 <=, 1 0 -1 <=]",
                and(region(tangents(0, 11)), region(row(1, 0, -1, 0))));
        Check.due("12 and 1 that is implied", tangentsTold(0, 11),
                and(region(tangents(0, 11)), region(row(0, -1, 1, 1))));
    }

    private static void membersOfNoPoints() {
        Check.sentence("not if it has no points: members");
        int[] under = new int[48];
        for (int k = 0; k < 12; k++) {
            under[4 * k] = 2 * k;
            under[4 * k + 1] = 1;
            under[4 * k + 2] = k * k - 1;
        }
        Check.due("12 members", 12, with(under).members(0));
        Check.due("12 and 12 without points", "", and(region(tangents(0, 11)), region(under)));
        Check.due("one of two rows without points", tangentsTold(0, 11),
                and(region(tangents(0, 11)), region(under, tangents(0, 11))));
    }

    private static void membersOfNot() {
        Check.sentence("more than 12 members: not()");
        Check.due("12 of 12 rows", tangentsTold(0, 11), not(belowAll(0, 11)));
        Check.due("12 of 11 rows", "[-10 -1 25 <=, 12 1 -36 <]" + tangentsTold(-6, 5),
                not(joined(belowAll(-5, 4), region(between(-6, 5)))));
        refused("13 of 12 rows", desk -> desk.not(), joined(belowAll(-6, 4), region(between(-7, 5))));
    }

    private static void membersInBetween() {
        Check.sentence("also in between: members");
        int[][] wide = joined(belowAll(-5, 3), region(between(-6, 4), between(-7, 5)));
        int[][] left = region(row(1, 0, 0, 0));
        refused("13, of which the last row would leave none", desk -> desk.not(), joined(wide, region(row())));
        refused("13, of which the last row would leave 7", desk -> desk.not(), joined(wide, left));
        Check.due("the same rows in another order", tangentsTold(0, 5).replace("[", "[-1 0 0 <, "),
                not(joined(left, wide)));
        int[][] narrow = joined(belowAll(-4, 3), region(between(-5, 4), between(-6, 5)));
        Check.due("12, of which the last row leaves none", "", not(joined(narrow, region(row()))));
    }

    private static void membersOfWithin() {
        Check.sentence("UnsupportedOperationException if a limit is passed on the way: members");
        Check.due("12 in the AND", false, within(region(below(11)), region(tangents(0, 10))));
        Check.due("12 and one of them in the AND", false, within(region(below(5)), region(tangents(0, 11))));
        refused("13 in the AND", desk -> desk.within(), region(below(12)), region(tangents(0, 11)));
        int[][] kept = joined(belowAll(-5, 4), region(between(-6, 5)));
        int[][] passed = joined(belowAll(-6, 4), region(between(-7, 5)));
        Check.due("12 in the NOT", false, within(kept, region(row())));
        Check.due("12 in the NOT, no rows above", true, within(kept, region()));
        refused("13 in the NOT", desk -> desk.within(), passed, region(row()));
        refused("13 in the NOT, no rows above", desk -> desk.within(), passed, region());
        refused("13 in the NOT, of which the AND would leave 2", desk -> desk.within(), passed,
                region(row(1, 0, -99, 0)));
    }

    private static void rowsOfOr() {
        Check.sentence("more than 12 rows of the region then: or()");
        Check.due("11 or 1", stripsTold(0, 11), or(strips(0, 10), strips(11, 11)));
        Check.due("1 or 11", stripsTold(0, 11), or(strips(0, 0), strips(1, 11)));
        Check.due("6 or 6", stripsTold(0, 11), or(strips(0, 5), strips(6, 11)));
        Check.due("12 or none", stripsTold(0, 11), or(strips(0, 11), region()));
        Check.due("none or 12", stripsTold(0, 11), or(region(), strips(0, 11)));
        refused("12 or 1", desk -> desk.or(), strips(0, 11), strips(12, 12));
        refused("1 or 12", desk -> desk.or(), strips(12, 12), strips(0, 11));
        refused("6 or 7", desk -> desk.or(), strips(0, 5), strips(6, 12));
        refused("12 or the row without members", desk -> desk.or(), strips(0, 11), region(row()));
    }

    private static void rowsOfAnd() {
        Check.sentence("more than 12 rows of the region then: and()");
        int[] low = row(0, 1, 0, 0);
        Check.due("12 times 1", stripsTold(0, 11).replace("=, 1", "=, 0 1 0 <=, 1"), and(strips(0, 11), region(low)));
        Check.due("7 and 5", 12, rowsOf(strips(0, 6), region(low, row(1, 0, 9, 0))));
        refused("7 and 6", desk -> desk.and(), strips(0, 6), region(low, row(1, 0, 11, 0)));
        refused("6 and 7, the other way", desk -> desk.and(), region(low, row(1, 0, 11, 0)), strips(0, 6));
        refused("12 times 2", desk -> desk.and(), strips(0, 11), region(low, row()));
    }

    private static int rowsOf(int[][] p, int[][] q) {
        RegionDesk desk = withAll(p);
        layAll(desk, q);
        desk.and();
        return desk.rows();
    }

    private static void rowsWhereTheSameIsThere() {
        Check.sentence("also if the same is there");
        Check.due("12 or the same 12", stripsTold(0, 11), or(strips(0, 11), strips(0, 11)));
        Check.due("12 or the last and the first", stripsTold(0, 11), or(strips(0, 11), region(strip(11), strip(0))));
        Check.due("11 or the last and one more", stripsTold(0, 11), or(strips(0, 10), region(strip(10), strip(11))));
        refused("12 or the last and one more", desk -> desk.or(), strips(0, 11), region(strip(11), strip(12)));
        Check.due("12 times 2, each twice", stripsTold(0, 11),
                and(strips(0, 11), region(row(1, 0, 100, 0), row(1, 0, 200, 0))));
        Check.due("2 times 12, each twice", stripsTold(0, 11),
                and(region(row(1, 0, 100, 0), row(1, 0, 200, 0)), strips(0, 11)));
        refused("2 times 12, twelve twice and one", desk -> desk.and(),
                region(row(1, 0, 100, 0), row(1, 0, 200, 0), row(1, 0, 0, 0)), strips(0, 11));
        Check.due("12 members twice", tangentsTold(0, 11), or(region(tangents(0, 11)), region(tangents(0, 11))));
    }

    private static void rowsOfNoPoints() {
        Check.sentence("not if it has no points: rows");
        Check.due("12 of 144", stripsTold(0, 11), and(strips(0, 11), strips(0, 11)));
        Check.due("none behind the twelfth", stripsTold(0, 11), and(strips(0, 11), turned(strips(0, 11))));
    }

    private static void rowsOfNot() {
        Check.sentence("more than 12 rows of the region then: not()");
        StringBuilder gaps = new StringBuilder("[1 0 0 <]");
        for (int i = 1; i <= 10; i++) {
            gaps.append("[-1 0 ").append(1 - 2 * i).append(" <, 1 0 ").append(2 * i).append(" <]");
        }
        gaps.append("[-1 0 -21 <]");
        Check.due("12 of 11 rows", gaps.toString(), not(strips(0, 10)));
        refused("13 of 12 rows", desk -> desk.not(), strips(0, 11));
    }

    private static void rowsOfParts() {
        Check.sentence("the PARTS of a row: twelve");
        StringBuilder parts = new StringBuilder("[0 1 0 <]");
        for (int k = 1; k <= 11; k++) {
            parts.append('[').append(-2 * k).append(" 1 ").append(-k * k).append(" <, ").append(2 * k - 2)
                    .append(" -1 ").append((k - 1) * (k - 1)).append(" <=]");
        }
        Check.due("12 of 12 members", parts.toString(), not(tangents(0, 11)));
    }

    /** Two parts of this strip meet the lowest part of tangents from 0 on, and one the others. */
    private static int[] band() {
        return row(0, 1, -5, 0, 0, -1, 10, 0);
    }

    private static int rowsOfNot(int[]... rows) {
        RegionDesk desk = withAll(rows);
        desk.not();
        return desk.rows();
    }

    private static void rowsInBetween() {
        Check.sentence("more than 12 rows of the region then, also in between");
        int[] low = row(0, 1, -1, 0);
        Check.due("12", 12, rowsOfNot(tangents(0, 10), band()));
        refused("13", desk -> desk.not(), region(tangents(0, 11), band()));
        Check.due("12, of which the last row leaves none", 0, rowsOfNot(tangents(0, 10), band(), row()));
        refused("13, of which the last row would leave none", desk -> desk.not(),
                region(tangents(0, 11), band(), row()));
        refused("13, of which the last row would leave 12", desk -> desk.not(), region(tangents(0, 11), band(), low));
        Check.due("the same rows in another order", 12, rowsOfNot(low, tangents(0, 11), band()));
        Check.due("the row without members first", 0, rowsOfNot(row(), tangents(0, 11), band()));
    }

    private static void rowsOfWithin() {
        Check.sentence("UnsupportedOperationException if a limit is passed on the way: rows");
        Check.due("12 in the NOT and in the AND", false, within(strips(0, 10), region(row())));
        Check.due("12 in the NOT, no rows above", true, within(strips(0, 10), region()));
        refused("13 in the NOT", desk -> desk.within(), strips(0, 11), region(row()));
        refused("13 in the NOT, one in the AND", desk -> desk.within(), strips(0, 11), region(row(1, 0, -1, 0)));
        refused("13 in the NOT, none in the AND", desk -> desk.within(), strips(0, 11), region(strip(3)));
        refused("13 in the NOT, no rows above", desk -> desk.within(), strips(0, 11), region());
        refused("13 in between", desk -> desk.within(), region(tangents(0, 11), band(), row()), region(row()));
        int[][] middle = region(row(0, -1, 0, 1, 0, 1, 1, 1));
        Check.due("12 in the AND", false, within(middle, strips(0, 5)));
        refused("13 in the AND", desk -> desk.within(), middle,
                joined(strips(0, 5), region(row(1, 0, -5, 0, 0, 1, -5, 0))));
        Check.due("12 in the AND, and the same again", false,
                within(middle, joined(strips(0, 5), region(row(1, 0, 1, 0, -1, 0, 0, 0, 0, 1, 0, 0)))));
        Check.due("12 in the AND, and some without points", false,
                within(middle, joined(strips(0, 5), region(row(0, -5, -1, 0, 0, 5, 4, 0)))));
    }

    private static void rowsOfFree() {
        Check.sentence("FREE: for each row, the row is added");
        Check.due("12 stay", stripsTold(0, 11), free(1, strips(0, 11)));
        Check.due("12 are the same", "[]", free(0, strips(0, 11)));
    }

    private static void twelveTimesTwelve() {
        Check.sentence("twelve rows, the last of them with twelve members");
        int[][] rows = joined(strips(0, 10), region(tangents(0, 11)));
        String due = stripsTold(0, 10) + tangentsTold(0, 11);
        Check.due("or()", due, or(rows, rows));
        Check.due("and()", due, and(rows, region(row())));
        RegionDesk desk = withAll(rows);
        desk.keep(3);
        desk.load(3);
        Check.due("keep() and load()", due, told(desk));
        int[][] twelve = new int[12][];
        for (int i = 0; i < 12; i++) {
            twelve[i] = tangents(i, i + 11);
        }
        RegionDesk full = withAll(twelve);
        for (int r = 0; r < 12; r++) {
            Check.due("members(" + r + ")", 12, full.members(r));
            Check.due("its first a", 2 * r, full.part(r, 0, 0));
            Check.due("its last c", (r + 11) * (r + 11), full.part(r, 11, 2));
        }
        Check.due("holds()", true, full.holds(0, 0, 1));
        Check.due("holds()", false, full.holds(22, 300, 1));
        Check.due("least()", 2, full.least(0, 1));
    }
}
