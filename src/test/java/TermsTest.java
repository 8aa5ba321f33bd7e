/** The terms of the document: each sentence that names a boundary case has a test of its own. */
public final class TermsTest extends Desks {
    private TermsTest() {
    }

    public static void main(String[] args) {
        noMember();
        normal();
        rationalPoints();
        order();
        sameAAndB();
        implied();
        impliedInOrder();
        rowWithoutMembers();
        rowsWithoutPoints();
        pointsWhateverElse();
        noTwoTheSame();
        pileAndTables();
        adding();
        andOfNothing();
        andInOrder();
        orOfNothing();
        orInOrder();
        notOfNothing();
        contraries();
        notWithMembersBefore();
        notRowByRow();
        freeWithoutColumn();
        freeOfOneSide();
        freeOfSixAndSix();
        freeSums();
        freeStrict();
        Check.end();
    }

    private static void noMember() {
        Check.sentence("One with a = b = 0 is no member: it holds or it does not");
        Check.due("0 <= 4", "[]", free(0, row(1, 0, 4, 0, -1, 0, 0, 0)));
        Check.due("0 < 4", "[]", free(0, row(1, 0, 4, 1, -1, 0, 0, 1)));
        Check.due("0 <= 0", "[]", free(0, row(1, 0, 4, 0, -1, 0, -4, 0)));
        Check.due("0 <= 0 of y", "[]", free(1, row(0, 3, 1, 0, 0, -3, -1, 0)));
        Check.due("0 <= 1 beside a member", "[0 1 -2 <]", free(0, row(1, 0, 4, 0, -1, 0, -3, 0, 0, 1, -2, 1)));
        Check.due("0 <= 8 of slant ones", "[]", free(1, row(2, 4, 8, 0, -1, -2, 0, 0)));
        Check.due("0 <= 0 of slant ones", "[]", free(0, row(2, 4, 3, 0, -2, -4, -3, 0)));
    }

    private static void normal() {
        Check.sentence("NORMAL: its numbers divided by their greatest common divisor (of all three)");
        Check.due("two for all three", "[2 3 5 <=]", form(4, 6, 10, 0));
        Check.due("two for a and b alone", "[4 6 9 <=]", form(4, 6, 9, 0));
        Check.due("two for b and c alone", "[3 6 8 <]", form(3, 6, 8, 1));
        Check.due("two for a and c alone", "[4 3 10 <]", form(4, 3, 10, 1));
        Check.due("c = 0", "[2 -3 0 <=]", form(10, -15, 0, 0));
        Check.due("a = 0", "[0 3 -4 <=]", form(0, 9, -12, 0));
        Check.due("a = c = 0", "[0 -1 0 <=]", form(0, -10000, 0, 0));
        Check.due("b = c = 0", "[1 0 0 <]", form(10000, 0, 0, 1));
        Check.due("all below 0", "[-3 -2 -1 <=]", form(-9, -6, -3, 0));
        Check.due("all the highest", "[1 1 1 <=]", form(10000, 10000, 10000, 0));
        Check.due("all the lowest", "[-1 -1 -1 <]", form(-10000, -10000, -10000, 1));
        Check.due("by one alone", "[9999 -10000 9998 <=]", form(9999, -10000, 9998, 0));
        Check.due("what is freed", "[0 2 3 <=]", free(0, row(1, 1, 3, 0, -1, 3, 3, 0)));
    }

    private static void rationalPoints() {
        Check.sentence("its points are the rational ones (x, y) that satisfy all of them");
        Check.due("x = 1 / 2", "[-2 0 -1 <=, 2 0 1 <=]", form(2, 0, 1, 0, -2, 0, -1, 0));
        Check.due("between 1 / 3 and 2 / 3", "[-3 0 -1 <, 3 0 2 <]", form(3, 0, 2, 1, -3, 0, -1, 1));
        Check.due("between 0 and 1 / 10000", "[-1 0 0 <, 10000 0 1 <]",
                form(10000, 0, 1, 1, -10000, 0, 0, 1));
        Check.due("between 9998 / 9999 and 9999 / 10000", "[0 -9999 -9998 <, 0 10000 9999 <]",
                form(0, 10000, 9999, 1, 0, -9999, -9998, 1));
        Check.due("9999 / 10000 < y < 9998 / 9999", "", form(0, -10000, -9999, 1, 0, 9999, 9998, 1));
        RegionDesk desk = with(3, 0, 1, 0, -3, 0, -1, 0, 0, 7, 2, 0, 0, -7, -2, 0);
        Check.due("the point 1 / 3, 2 / 7", true, desk.holds(7, 6, 21));
        Check.due("a point beside it", false, desk.holds(7, 7, 21));
        Check.due("a point beside it", false, desk.holds(333, 286, 1000));
    }

    private static void order() {
        Check.sentence("ordered by a, then b, .. the lesser first");
        Check.due("by a", "[-1 0 9 <=, 0 1 9 <=, 1 0 9 <=]", form(1, 0, 9, 0, 0, 1, 9, 0, -1, 0, 9, 0));
        Check.due("by a before c", "[-1 0 9 <=, 1 0 -5 <=]", form(1, 0, -5, 0, -1, 0, 9, 0));
        Check.due("by b where a is the same", "[1 -1 9 <=, 1 0 8 <=, 1 1 9 <=]",
                form(1, 1, 9, 0, 1, -1, 9, 0, 1, 0, 8, 0));
        Check.due("by b before c", "[1 -1 9 <=, 1 1 -9 <=]", form(1, 1, -9, 0, 1, -1, 9, 0));
        Check.due("by b before strictness", "[1 -1 9 <, 1 1 9 <=]", form(1, 1, 9, 0, 1, -1, 9, 1));
        Check.due("by the numbers divided", "[1 5 1 <=, 2 0 1 <=]", form(2, 0, 1, 0, 3, 15, 3, 0));
        Check.due("the lowest and the highest", "[-10000 1 1 <=, 0 -10000 1 <=, 0 10000 1 <=, 10000 -1 1 <=]",
                form(10000, -1, 1, 0, 0, 10000, 1, 0, -10000, 1, 1, 0, 0, -10000, 1, 0));
    }

    private static void sameAAndB() {
        Check.sentence("of those with the same a and b just the one stays that says most");
        Check.due("the least c first", "[3 4 -1 <=]", form(3, 4, -1, 0, 3, 4, 0, 0, 3, 4, 1, 0));
        Check.due("the least c last", "[3 4 -1 <=]", form(3, 4, 1, 0, 3, 4, 0, 0, 3, 4, -1, 0));
        Check.due("the least c though it is not strict", "[3 4 1 <=]", form(3, 4, 2, 1, 3, 4, 1, 0));
        Check.due("the least c though it is not strict, first", "[3 4 1 <=]", form(3, 4, 1, 0, 3, 4, 2, 1));
        Check.due("the least c, strict", "[3 4 1 <]", form(3, 4, 1, 1, 3, 4, 2, 0));
        Check.due("of equal ones the strict one, first", "[3 4 1 <]", form(3, 4, 1, 1, 3, 4, 1, 0));
        Check.due("of equal ones the strict one, last", "[3 4 1 <]", form(3, 4, 1, 0, 3, 4, 1, 1));
        Check.due("the same twice", "[3 4 1 <=]", form(3, 4, 1, 0, 3, 4, 1, 0));
        Check.due("the same strict one twice", "[3 4 1 <]", form(3, 4, 1, 1, 3, 4, 1, 1));
        Check.due("the same when divided", "[3 4 1 <]", form(6, 8, 2, 1, 9, 12, 3, 0));
        Check.due("the least and the highest c", "[3 4 -10000 <=]", form(3, 4, 10000, 0, 3, 4, -10000, 0));
    }

    private static void implied() {
        Check.sentence("each member goes that the others which are there still imply");
        Check.due("by one, parallel", "[2 4 5 <=]", form(1, 2, 3, 0, 2, 4, 5, 0));
        Check.due("by one, parallel", "[1 2 2 <=]", form(1, 2, 2, 0, 2, 4, 5, 1));
        Check.due("by two, at the corner", "[0 1 1 <=, 1 0 1 <=]", form(1, 0, 1, 0, 0, 1, 1, 0, 1, 1, 2, 0));
        Check.due("by two, before the corner it stays", "[0 1 1 <=, 1 0 1 <=, 10 10 19 <=]",
                form(1, 0, 1, 0, 0, 1, 1, 0, 10, 10, 19, 0));
        Check.due("behind the corner it goes", "[0 1 1 <=, 1 0 1 <=]", form(1, 0, 1, 0, 0, 1, 1, 0, 10, 10, 21, 1));
        Check.due("strict at the corner it stays", "[0 1 1 <=, 1 0 1 <=, 1 1 2 <]",
                form(1, 0, 1, 0, 0, 1, 1, 0, 1, 1, 2, 1));
        Check.due("strict at a strict corner it goes", "[0 1 1 <, 1 0 1 <=]",
                form(1, 0, 1, 0, 0, 1, 1, 1, 1, 1, 2, 1));
        Check.due("by one that bounds it and one that turns away", "[-1 0 0 <=, 1 1 0 <=]",
                form(-1, 0, 0, 0, 1, 1, 0, 0, 0, 1, 0, 0));
        Check.due("none by no others", "[0 1 10000 <=]", form(0, 1, 10000, 0));
    }

    private static void impliedInOrder() {
        Check.sentence("one after the other in this order");
        Check.due("on a line two imply one another: the first goes", "[-1 0 0 <=, 1 0 0 <=, 1 1 1 <=]",
                form(1, 0, 0, 0, -1, 0, 0, 0, 1, 1, 1, 0, 0, 1, 1, 0));
        Check.due("on a line, both strict: the first goes", "[-1 0 0 <=, 1 0 0 <=, 1 1 1 <]",
                form(0, 1, 1, 1, 1, 0, 0, 0, -1, 0, 0, 0, 1, 1, 1, 1));
        Check.due("on a line the strict first stays", "[-1 0 0 <=, 0 1 1 <, 1 0 0 <=]",
                form(0, 1, 1, 1, 1, 0, 0, 0, -1, 0, 0, 0, 1, 1, 1, 0));
        Check.due("a point by five lines", "[-1 0 0 <=, 0 1 0 <=, 1 -1 0 <=]",
                form(1, 0, 0, 0, -1, 0, 0, 0, 0, 1, 0, 0, 0, -1, 0, 0, 1, -1, 0, 0));
        Check.due("a point by four lines, all needed", "[-1 0 0 <=, 0 -1 0 <=, 0 1 0 <=, 1 0 0 <=]",
                form(1, 0, 0, 0, -1, 0, 0, 0, 0, 1, 0, 0, 0, -1, 0, 0));
    }

    private static void rowWithoutMembers() {
        Check.sentence("A row without members has all points");
        RegionDesk desk = with();
        Check.due("rows", 1, desk.rows());
        Check.due("members", 0, desk.members(0));
        Check.due("a far point", true, desk.holds(10000, 10000, 1));
        Check.due("a far point", true, desk.holds(-10000, -10000, 1));
        Check.due("a near point", true, desk.holds(1, -1, 1000));
        lay(desk, 1, 0, 0, 0);
        lay(desk, -1, 0, 0, 1);
        desk.or();
        lay(desk);
        Check.due("all of it in two halves", true, desk.within());
    }

    private static void rowsWithoutPoints() {
        Check.sentence("Rows without points are no rows");
        Check.due("crossed", "", form(1, 0, 1, 0, -1, 0, -2, 0));
        Check.due("crossed by the least", "", form(10000, 0, 9999, 0, -1, 0, -1, 0));
        Check.due("touching", "[-1 0 -1 <=, 1 0 1 <=]", form(1, 0, 1, 0, -1, 0, -1, 0));
        Check.due("touching, the upper one strict", "", form(1, 0, 1, 1, -1, 0, -1, 0));
        Check.due("touching, the lower one strict", "", form(1, 0, 1, 0, -1, 0, -1, 1));
        Check.due("touching, both strict", "", form(1, 0, 1, 1, -1, 0, -1, 1));
        Check.due("touching, slant", "[-3 -5 -7 <=, 3 5 7 <=]", form(3, 5, 7, 0, -3, -5, -7, 0));
        Check.due("touching, slant, strict", "", form(3, 5, 7, 0, -3, -5, -7, 1));
        Check.due("three round no point", "", form(-1, 0, 0, 0, 0, -1, 0, 0, 1, 1, -1, 0));
        Check.due("three through a point", "[-1 0 0 <=, 0 -1 0 <=, 1 1 0 <=]",
                form(-1, 0, 0, 0, 0, -1, 0, 0, 1, 1, 0, 0));
        Check.due("three through a point, one strict", "", form(-1, 0, 0, 1, 0, -1, 0, 0, 1, 1, 0, 0));
        Check.due("three through a point, one strict", "", form(-1, 0, 0, 0, 0, -1, 0, 1, 1, 1, 0, 0));
        Check.due("three through a point, one strict", "", form(-1, 0, 0, 0, 0, -1, 0, 0, 1, 1, 0, 1));
    }

    /** Members that say little, in all directions: they change no row that lies near (0, 0). */
    private static void pointsWhateverElse() {
        Check.sentence("Rows without points are no rows, whatever else is said");
        int[] crossed = row(1, 0, 1, 0, -1, 0, -2, 0);
        int[] slant = row(3, 5, 7, 0, -3, -5, -7, 1);
        int[] three = row(-1, 2, 0, 0, -1, -2, 0, 1, 1, 0, 0, 0);
        int[] apart = row(-1, 2, 0, 0, -1, -2, 0, 0, 1, 0, -1, 0);
        int[] point = row(-1, 2, 0, 0, -1, -2, 0, 0, 1, 0, 0, 0);
        int[] box = row(1, 0, 1, 1, -1, 0, 1, 0, 0, 1, 1, 0, 0, -1, 1, 1);
        for (int a = -4; a <= 4; a++) {
            for (int b = -4; b <= 4; b++) {
                if (a != 0 || b != 0) {
                    int[] far = row(a, b, 9973, 0);
                    String with = " with " + a + " " + b;
                    Check.due("crossed" + with, "", form(also(far, crossed)));
                    Check.due("slant" + with, "", form(also(far, slant)));
                    Check.due("three through a point" + with, "", form(also(far, three)));
                    Check.due("three round no point" + with, "", form(also(far, apart)));
                    Check.due("a point" + with, "[-1 -2 0 <=, -1 2 0 <=, 1 0 0 <=]", form(also(far, point)));
                    Check.due("a box" + with, "[-1 0 1 <=, 0 -1 1 <, 0 1 1 <=, 1 0 1 <]", form(also(far, box)));
                }
            }
        }
        Check.due("the first of two bounds crosses", "", form(-2, 0, -9, 0, -1, 0, 0, 0, 1, 0, 3, 0));
        Check.due("the first of two bounds crosses, 20 / 3 and 11 / 2", "",
                form(-3, 0, -20, 0, -2, 0, -11, 0, 1, 0, 6, 0));
        Check.due("of two bounds at the same place the first is strict", "",
                form(-1, -1, 1, 0, -1, 0, 1, 1, 0, 1, 0, 0, 1, -1, -1, 0));
        Check.due("of two bounds at the same place none is strict", "[-1 0 1 <=, 0 1 0 <=, 1 -1 -1 <=]",
                form(-1, -1, 1, 0, -1, 0, 1, 0, 0, 1, 0, 0, 1, -1, -1, 0));
        Check.due("the last of two bounds crosses", "", form(-2, 0, -1, 0, -1, 0, -5, 0, 1, 0, 3, 0));
    }

    private static int[] also(int[] first, int[] second) {
        int[] numbers = new int[first.length + second.length];
        System.arraycopy(first, 0, numbers, 0, first.length);
        System.arraycopy(second, 0, numbers, first.length, second.length);
        return numbers;
    }

    private static String both(int[] first, int[] second) {
        return or(region(first), region(second));
    }

    private static void noTwoTheSame() {
        Check.sentence("A REGION is a list of rows in normal form, no two of them the same");
        int[] row = row(1, 0, 1, 0);
        Check.due("the same", "[1 0 1 <=]", both(row, row));
        Check.due("the same when divided", "[1 0 1 <=]", both(row, row(2, 0, 2, 0)));
        Check.due("the same without what is implied", "[1 0 1 <=]", both(row, row(1, 0, 1, 0, 1, 0, 2, 0)));
        Check.due("the row without members twice", "[]", both(row(), row()));
        Check.due("the row without members is another", "[1 0 1 <=][]", both(row, row()));
        Check.due("the strict one is another", "[1 0 1 <=][1 0 1 <]", both(row, row(1, 0, 1, 1)));
        Check.due("another a", "[1 0 1 <=][-1 0 1 <=]", both(row, row(-1, 0, 1, 0)));
        Check.due("another b", "[1 0 1 <=][1 1 1 <=]", both(row, row(1, 1, 1, 0)));
        Check.due("another c", "[1 0 1 <=][1 0 2 <=]", both(row, row(1, 0, 2, 0)));
        Check.due("a member more at the end", "[0 1 1 <=][0 1 1 <=, 1 0 1 <=]",
                both(row(0, 1, 1, 0), row(1, 0, 1, 0, 0, 1, 1, 0)));
        Check.due("a member less at the end", "[0 1 1 <=, 1 0 1 <=][0 1 1 <=]",
                both(row(1, 0, 1, 0, 0, 1, 1, 0), row(0, 1, 1, 0)));
        Check.due("the same points by other members", "[-1 0 0 <=, 0 1 1 <=, 1 0 0 <=][-1 0 0 <=, 1 0 0 <=, 1 1 1 <=]",
                both(row(1, 0, 0, 0, -1, 0, 0, 0, 0, 1, 1, 0), row(1, 0, 0, 0, -1, 0, 0, 0, 1, 1, 1, 0)));
    }

    private static void pileAndTables() {
        Check.sentence("Regions lie on a PILE of at most 6; TABLES 0 .. 3 hold one each (without rows at first)");
        RegionDesk desk = new RegionDesk();
        for (int i = 0; i < 4; i++) {
            Check.due("load", i + 1, desk.load(i));
            Check.due("rows at first", 0, desk.rows());
        }
        Check.due("five", 5, desk.row());
        Check.due("six", 6, desk.row());
        Check.state("the seventh", () -> desk.row());
        Check.state("the seventh", () -> desk.load(0));
        for (int i = 0; i < 4; i++) {
            desk.drop();
        }
        for (int i = 0; i < 4; i++) {
            lay(desk, 1, 0, i, 0);
            desk.keep(i);
        }
        for (int i = 3; i >= 0; i--) {
            desk.load(i);
            Check.due("each table's own", i, desk.part(0, 0, 2));
        }
    }

    private static void adding() {
        Check.sentence("ADDING a row to a region: nothing if it has no points, or the same is there;"
                + " else it comes behind");
        int[][] two = region(row(1, 0, 1, 0), row(0, 1, 1, 0));
        Check.due("no points", "[1 0 1 <=][0 1 1 <=]", or(two, region(row(1, 0, 0, 0, -1, 0, -1, 0))));
        Check.due("the first is there", "[1 0 1 <=][0 1 1 <=]", or(two, region(row(1, 0, 1, 0))));
        Check.due("the last is there", "[1 0 1 <=][0 1 1 <=]", or(two, region(row(0, 1, 1, 0))));
        Check.due("behind, though it is the lesser", "[1 0 1 <=][0 1 1 <=][-5 0 -9 <=]",
                or(two, region(row(-5, 0, -9, 0))));
    }

    private static void andOfNothing() {
        Check.sentence("AND of regions P and Q: beginning without rows");
        int[][] none = region();
        int[][] all = region(row());
        int[][] low = region(row(0, 1, 0, 0));
        Check.due("neither has rows", "", and(none, none));
        Check.due("P has none", "", and(none, low));
        Check.due("Q has none", "", and(low, none));
        Check.due("P has none, Q the row without members", "", and(none, all));
        Check.due("P is the row without members", "[0 1 0 <=]", and(all, low));
        Check.due("Q is the row without members", "[0 1 0 <=]", and(low, all));
        Check.due("both are", "[]", and(all, all));
        Check.due("both are the same", "[0 1 0 <=]", and(low, low));
        Check.due("they touch", "[0 -1 0 <=, 0 1 0 <=]", and(low, region(row(0, -1, 0, 0))));
        Check.due("they do not touch", "", and(low, region(row(0, -1, 0, 1))));
    }

    private static void andInOrder() {
        Check.sentence("for each row of P, for each row of Q, the row of the members of both is added");
        Check.due("rows of P outside", "[0 1 0 <=, 1 0 0 <=][0 1 7 <, 1 0 0 <=]"
                + "[0 1 0 <=, 1 0 5 <=][0 1 7 <, 1 0 5 <=]",
                and(region(row(1, 0, 0, 0), row(1, 0, 5, 0)),
                        region(row(0, 1, 0, 0), row(0, 1, 7, 1))));
        Check.due("one without points", "[1 0 0 <=][-1 0 -3 <=]",
                and(region(row(1, 0, 0, 0), row(-1, 0, -3, 0)),
                        region(row(-1, 0, -1, 0), row(1, 0, 2, 0))));
        Check.due("some the same", "[1 0 3 <=][1 0 1 <=][1 0 2 <=]",
                and(region(row(1, 0, 3, 0), row(1, 0, 1, 0), row(1, 0, 2, 0)),
                        region(row(1, 0, 9, 0), row(1, 0, 1, 0))));
    }

    private static void orOfNothing() {
        Check.sentence("OR: P, to which the rows of Q are added; without rows");
        int[][] none = region();
        int[][] all = region(row());
        int[][] low = region(row(0, 1, 0, 0));
        Check.due("neither has rows", "", or(none, none));
        Check.due("P has none", "[0 1 0 <=]", or(none, low));
        Check.due("Q has none", "[0 1 0 <=]", or(low, none));
        Check.due("P has none, Q the row without members", "[]", or(none, all));
        Check.due("P is the row without members", "[][0 1 0 <=]", or(all, low));
        Check.due("Q is the row without members", "[0 1 0 <=][]", or(low, all));
        Check.due("both are", "[]", or(all, all));
    }

    private static void orInOrder() {
        Check.sentence("OR: P, to which the rows of Q are added");
        Check.due("P first, the same not again, those that lie in another stay",
                "[1 0 3 <=][1 0 1 <=][1 0 2 <=][1 0 0 <=]",
                or(region(row(1, 0, 3, 0), row(1, 0, 1, 0)),
                        region(row(1, 0, 2, 0), row(1, 0, 1, 0), row(1, 0, 0, 0))));
    }

    private static void notOfNothing() {
        Check.sentence("NOT of P: beginning with the row without members alone");
        Check.due("of the region without rows", "[]", not());
        Check.due("of the row without members", "", not(row()));
        int[] left = row(1, 0, 5, 0);
        Check.due("of a row and the row without members", "", not(left, row()));
        Check.due("of the row without members and a row", "", not(row(), left));
        Check.due("of two halves", "", not(left, row(-1, 0, -5, 1)));
        Check.due("of two halves without their line", "[-1 0 -5 <=, 1 0 5 <=]",
                not(row(1, 0, 5, 1), row(-1, 0, -5, 1)));
        Check.due("of two halves that share their line", "", not(left, row(-1, 0, -5, 0)));
    }

    private static void contraries() {
        Check.sentence("the contrary of a x + b y <= c is -a x - b y < -c,"
                + " and of a strict one that without strictness");
        Check.due("of <=", "[-1 2 -3 <]", not(row(1, -2, 3, 0)));
        Check.due("of <", "[-1 2 -3 <=]", not(row(1, -2, 3, 1)));
        Check.due("of c = 0", "[0 -1 0 <]", not(row(0, 1, 0, 0)));
        Check.due("of the highest", "[-10000 -9999 -10000 <]", not(row(10000, 9999, 10000, 0)));
        Check.due("of the lowest", "[10000 9999 10000 <=]", not(row(-10000, -9999, -10000, 1)));
    }

    private static void notWithMembersBefore() {
        Check.sentence("for each of its members, the row of this member's contrary and all members before it");
        Check.due("two", "[0 -1 -1 <=][-1 0 -1 <, 0 1 1 <]", not(row(1, 0, 1, 0, 0, 1, 1, 1)));
        Check.due("three", "[1 0 0 <][-1 0 0 <=, 0 1 0 <][-1 -1 -1 <, -1 0 0 <=, 0 -1 0 <=]",
                not(row(1, 1, 1, 0, 0, -1, 0, 0, -1, 0, 0, 0)));
        Check.due("the one before is implied", "[1 0 1 <][-1 0 -4 <=]", not(row(-1, 0, -1, 0, 1, 0, 4, 1)));
        Check.due("a line", "[1 0 1 <][-1 0 -1 <]", not(row(-1, 0, -1, 0, 1, 0, 1, 0)));
        Check.due("a point", "[1 0 0 <][-1 0 0 <=, 0 1 0 <][-1 0 0 <=, 0 -1 0 <][-1 0 0 <, 0 -1 0 <=, 0 1 0 <=]",
                not(row(1, 0, 0, 0, -1, 0, 0, 0, 0, 1, 0, 0, 0, -1, 0, 0)));
    }

    private static void notRowByRow() {
        Check.sentence("for each row of P: AND of what there is by now and of the region of the PARTS of this row");
        Check.due("two half planes", "[-1 0 0 <, 0 -1 0 <]", not(row(1, 0, 0, 0), row(0, 1, 0, 0)));
        Check.due("two quarters", "[0 -1 0 <, 1 0 0 <][-1 0 0 <, 0 1 0 <]",
                not(row(1, 0, 0, 0, 0, 1, 0, 0), row(-1, 0, 0, 0, 0, -1, 0, 0)));
        Check.due("two strips", "[0 1 0 <, 1 0 0 <][0 -1 -1 <, 1 0 0 <]"
                + "[-1 0 -1 <, 0 1 0 <][-1 0 -1 <, 0 -1 -1 <]",
                not(row(-1, 0, 0, 0, 1, 0, 1, 0), row(0, -1, 0, 0, 0, 1, 1, 0)));
    }

    private static void freeWithoutColumn() {
        Check.sentence("FREE of a column (0 x, 1 y): .. all its members without this column (its number is 0)");
        Check.due("without x", "[0 -1 5 <, 0 1 3 <=]", free(0, row(0, 1, 3, 0, 0, -1, 5, 1)));
        Check.due("without y", "[-1 0 5 <, 1 0 3 <=]", free(1, row(1, 0, 3, 0, -1, 0, 5, 1)));
        Check.due("x of members without y", "[]", free(0, row(1, 0, 3, 0)));
        Check.due("y of members without x", "[]", free(1, row(0, 1, 3, 1)));
        Check.due("x of the row without members", "[]", free(0, row()));
        Check.due("y of the row without members", "[]", free(1, row()));
        Check.due("x of the region without rows", "", free(0));
        Check.due("y of the region without rows", "", free(1));
        Check.due("for each row, the same not again", "[0 1 2 <=][0 1 1 <=]",
                free(0, row(0, 1, 2, 0, 1, 0, 1, 0), row(0, 1, 1, 0), row(0, 1, 2, 0, 1, 0, 5, 0)));
    }

    private static void freeOfOneSide() {
        Check.sentence("for each member with a number u above 0 and each with -l below 0");
        Check.due("above 0 alone", "[]", free(0, row(1, 1, 0, 0, 2, -1, 5, 0)));
        Check.due("below 0 alone", "[]", free(0, row(-1, 1, 0, 0, -2, -1, 5, 0)));
        Check.due("y above 0 alone", "[]", free(1, row(1, 1, 0, 0, -1, 1, 5, 0)));
        Check.due("y below 0 alone", "[]", free(1, row(1, -1, 0, 0, -1, -1, 5, 0)));
        Check.due("above 0 beside one without", "[0 1 4 <]", free(0, row(1, 1, 0, 0, 0, 1, 4, 1)));
        Check.due("each with each", "[0 -1 6 <=, 0 3 8 <=]",
                free(0, row(1, 1, 4, 0, 1, -1, 6, 0, -1, 2, 4, 0, -1, 0, 0, 0, -1, -2, 12, 0)));
    }

    /** x below -y^2 and above y^2 - 3701, by tangents: 36 sums, of which the last says most. */
    private static void freeOfSixAndSix() {
        Check.sentence("for each member with a number u above 0 and each with -l below 0: six and six");
        int[] numbers = new int[48];
        for (int k = 1; k <= 6; k++) {
            int above = 8 * (k - 1);
            numbers[above] = 1;
            numbers[above + 1] = 20 * k;
            numbers[above + 2] = 100 * k * k;
            numbers[above + 4] = -1;
            numbers[above + 5] = 2 * k;
            numbers[above + 6] = k * k + 3701;
        }
        Check.due("members", 12, with(numbers).members(0));
        Check.due("y <= 7337 / 132", "[0 12 667 <=]", free(0, numbers));
    }

    private static void freeSums() {
        Check.sentence("of l times the first and u times the second added up");
        Check.due("2 and 3 of x", "[0 5 22 <=]", free(0, row(2, 1, 4, 0, -3, 1, 5, 0)));
        Check.due("2 and 3 of y", "[5 0 22 <=]", free(1, row(1, 2, 4, 0, 1, -3, 5, 0)));
        Check.due("1 and 1 of x", "[0 2 9 <=]", free(0, row(1, 1, 4, 0, -1, 1, 5, 0)));
        Check.due("10000 and 9999", "[0 1 0 <=]", free(0, row(10000, 1, 0, 0, -9999, 1, 0, 0)));
    }

    private static void freeStrict() {
        Check.sentence("strict if one of them is");
        Check.due("neither", "[0 2 9 <=]", free(0, row(1, 1, 4, 0, -1, 1, 5, 0)));
        Check.due("the first", "[0 2 9 <]", free(0, row(1, 1, 4, 1, -1, 1, 5, 0)));
        Check.due("the second", "[0 2 9 <]", free(0, row(1, 1, 4, 0, -1, 1, 5, 1)));
        Check.due("both", "[0 2 9 <]", free(0, row(1, 1, 4, 1, -1, 1, 5, 1)));
        Check.due("not one without the column, beside a strict one below 0", "[0 1 5 <=]",
                free(0, row(0, 1, 5, 0, -1, 0, 0, 1)));
        Check.due("not one without the column, beside a strict one above 0", "[0 1 5 <=]",
                free(0, row(0, 1, 5, 0, 1, 0, 0, 1)));
        Check.due("not one without y, beside strict ones", "[1 0 5 <=]",
                free(1, row(1, 0, 5, 0, 0, 1, 3, 1, 0, -1, 3, 1)));
        Check.due("one without the column that is strict itself", "[0 1 5 <]",
                free(0, row(0, 1, 5, 1, 1, 0, 0, 0, -1, 0, 0, 0)));
        Check.due("the first of y", "[2 0 9 <]", free(1, row(1, 1, 4, 1, 1, -1, 5, 0)));
        Check.due("the second of y", "[2 0 9 <]", free(1, row(1, 1, 4, 0, 1, -1, 5, 1)));
    }
}
