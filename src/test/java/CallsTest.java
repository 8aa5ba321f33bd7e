import java.util.function.Consumer;

/**
 * The promises: each sentence that names a boundary case has a test of its own. A call that is
 * refused leaves all as it was.
 */
public final class CallsTest extends Desks {
    private static final int[] FAR = {Integer.MIN_VALUE, -20000, 20000, Integer.MAX_VALUE};

    private CallsTest() {
    }

    public static void main(String[] args) {
        newObject();
        memberCounts();
        memberNumbers();
        memberOfZeros();
        memberOfTwelve();
        rowOfNothing();
        rowWithoutPoints();
        rowCollectsNothingThen();
        rowOfSix();
        twoAreNeeded();
        upperTwo();
        oneIsNeeded();
        columns();
        tables();
        keepInPlace();
        loadStill();
        loadOfSix();
        drop();
        nothingIsLeft();
        nothingIsLeftForTwo();
        pile();
        rows();
        members();
        partOfMembers();
        partOfWhat();
        holdsPoints();
        holdsOfNothing();
        holdsNumbers();
        withinOfNothing();
        withinOfEdges();
        withinChangesNothing();
        leastTaken();
        leastNotTaken();
        leastThatThereIsNot();
        leastOfNoPoints();
        leastOfZeros();
        leastOfManyCorners();
        leastOfUnions();
        leastNumbers();
        valueBehindEach();
        valueStays();
        valueInLowestTerms();
        valueParts();
        Check.end();
    }

    /** Tables, a value, two members collected, and these regions on the pile. */
    private static RegionDesk desk(int[][]... regions) {
        RegionDesk desk = furnished();
        for (int[][] region : regions) {
            layAll(desk, region);
        }
        collect(desk, 3, 4, 5, 1, 4, 3, 5, 0);
        return desk;
    }

    private static RegionDesk fullDesk() {
        return desk(region(row(1, 0, 1, 0)), region(row(1, 0, 2, 0)), region(), region(row()),
                region(row(1, 0, 5, 0), row(0, 1, 5, 0)), region(row(1, 0, 6, 0)));
    }

    private static void refused(String call, Class<?> want, Consumer<RegionDesk> use, int[][]... regions) {
        Check.refused(call, want, () -> desk(regions), use);
    }

    private static void newObject() {
        Check.sentence("Nothing on the pile, no members collected");
        RegionDesk desk = new RegionDesk();
        Check.due("pile()", 0, desk.pile());
        Check.due("drop()", false, desk.drop());
        Check.due("row()", 1, desk.row());
        Check.due("the row of nothing", "[]", told(desk));
        Check.due("member()", 1, desk.member(1, 0, 0, false));
        RegionDesk other = new RegionDesk();
        Check.due("pile() of another", 0, other.pile());
        Check.due("member() of another", 1, other.member(1, 0, 0, false));
        Check.due("value(0)", 0, other.value(0));
        Check.due("value(1)", 0, other.value(1));
    }

    private static void memberCounts() {
        Check.sentence("A member is collected (also one that is there already): how many are");
        RegionDesk desk = new RegionDesk();
        for (int i = 1; i <= 12; i++) {
            Check.due("the same member", i, desk.member(5, -7, 3, true));
        }
        desk.row();
        Check.due("the row of it", "[5 -7 3 <]", told(desk));
        Check.due("member", 1, desk.member(1, 0, 0, false));
        Check.due("its multiple", 2, desk.member(2, 0, 0, false));
        Check.due("its contrary", 3, desk.member(-1, 0, 0, true));
        Check.due("one that is implied", 4, desk.member(1, 0, 9, true));
    }

    private static void memberNumbers() {
        Check.sentence("IllegalArgumentException if a number is not -10000 .. 10000");
        for (int edge : new int[] {-10000, 10000}) {
            RegionDesk desk = new RegionDesk();
            Check.due("a = " + edge, 1, desk.member(edge, 1, 1, false));
            Check.due("b = " + edge, 2, desk.member(1, edge, 1, false));
            Check.due("c = " + edge, 3, desk.member(1, 1, edge, false));
            Check.due("all " + edge, 4, desk.member(edge, edge, edge, false));
        }
        for (int far : new int[] {-10001, 10001, FAR[0], FAR[1], FAR[2], FAR[3]}) {
            refused("member, a = " + far, Check.ARGUMENT, desk -> desk.member(far, 1, 1, false));
            refused("member, b = " + far, Check.ARGUMENT, desk -> desk.member(1, far, 1, true));
            refused("member, c = " + far, Check.ARGUMENT, desk -> desk.member(1, 1, far, false));
        }
    }

    private static void memberOfZeros() {
        Check.sentence("IllegalArgumentException if .. a and b are 0");
        for (int c : new int[] {-10000, -1, 0, 1, 10000}) {
            refused("member(0, 0, " + c + ", false)", Check.ARGUMENT, desk -> desk.member(0, 0, c, false));
            refused("member(0, 0, " + c + ", true)", Check.ARGUMENT, desk -> desk.member(0, 0, c, true));
        }
        RegionDesk desk = new RegionDesk();
        Check.due("a alone is 0", 1, desk.member(0, -1, 0, false));
        Check.due("b alone is 0", 2, desk.member(1, 0, 0, false));
    }

    private static void memberOfTwelve() {
        Check.sentence("IllegalStateException if twelve are");
        for (boolean strict : new boolean[] {false, true}) {
            Check.refused("the thirteenth", Check.STATE, CallsTest::twelveCollected,
                    desk -> desk.member(7, 1, 0, strict));
        }
        Check.refused("the thirteenth, there already", Check.STATE, CallsTest::twelveCollected,
                desk -> desk.member(1, 1, 3, false));
        Check.refused("the thirteenth, a and b 0", Check.ARGUMENT, CallsTest::twelveCollected,
                desk -> desk.member(0, 0, 3, false));
        Check.refused("the thirteenth, far", Check.ARGUMENT, CallsTest::twelveCollected,
                desk -> desk.member(1, 2, 10001, false));
        RegionDesk desk = twelveCollected();
        desk.row();
        Check.due("behind row()", 1, desk.member(1, 2, 3, false));
    }

    private static RegionDesk twelveCollected() {
        RegionDesk desk = furnished();
        for (int i = 1; i <= 12; i++) {
            Check.due("member " + i, i, desk.member(1, i % 5, 3, false));
        }
        return desk;
    }

    private static void rowOfNothing() {
        Check.sentence("of nothing: the row without members");
        RegionDesk desk = new RegionDesk();
        Check.due("row()", 1, desk.row());
        Check.due("rows()", 1, desk.rows());
        Check.due("members(0)", 0, desk.members(0));
        desk.member(1, 0, 0, false);
        desk.row();
        Check.due("row() again", 3, desk.row());
        Check.due("nothing was left", "[]", told(desk));
    }

    private static void rowWithoutPoints() {
        Check.sentence("without rows, if it has no points");
        RegionDesk desk = new RegionDesk();
        collect(desk, 1, 0, 0, 0, -1, 0, -1, 0);
        Check.due("row()", 1, desk.row());
        Check.due("rows()", 0, desk.rows());
        collect(desk, 1, 0, 0, 1, -1, 0, 0, 0);
        Check.due("row()", 2, desk.row());
        Check.due("rows()", 0, desk.rows());
        Check.due("nothing is collected then", 1, desk.member(1, 0, 0, false));
    }

    private static void rowCollectsNothingThen() {
        Check.sentence("nothing is collected then");
        RegionDesk desk = new RegionDesk();
        lay(desk, 1, 0, 1, 0, 0, 1, 1, 0);
        Check.due("member()", 1, desk.member(-1, 0, 5, false));
        desk.row();
        Check.due("the next row", "[-1 0 5 <=]", told(desk));
        desk.drop();
        Check.due("the row before", "[0 1 1 <=, 1 0 1 <=]", told(desk));
    }

    private static void rowOfSix() {
        Check.sentence("(it stays if this throws): how many lie there. IllegalStateException if there are six");
        Check.refused("row() of six", Check.STATE, CallsTest::fullDesk, desk -> desk.row());
        RegionDesk desk = new RegionDesk();
        for (int i = 1; i <= 6; i++) {
            Check.due("row()", i, desk.row());
        }
        Check.state("row() of nothing on six", () -> desk.row());
        desk.member(1, 2, 3, true);
        desk.member(2, 1, 3, true);
        Check.state("row() of two on six", () -> desk.row());
        Check.due("what was collected stays", 3, desk.member(1, 2, 5, false));
        desk.drop();
        Check.due("row() on five", 6, desk.row());
        Check.due("its members", "[1 2 3 <, 2 1 3 <]", told(desk));
        Check.due("nothing is collected then", 1, desk.member(1, 2, 3, true));
    }

    private static void twoAreNeeded() {
        Check.sentence("IllegalStateException if there are not two");
        refused("and() of none", Check.STATE, desk -> desk.and());
        refused("or() of none", Check.STATE, desk -> desk.or());
        refused("within() of none", Check.STATE, desk -> desk.within());
        refused("and() of one", Check.STATE, desk -> desk.and(), region(row(1, 0, 1, 0)));
        refused("or() of one", Check.STATE, desk -> desk.or(), region(row(1, 0, 1, 0)));
        refused("within() of one", Check.STATE, desk -> desk.within(), region(row(1, 0, 1, 0)));
        refused("and() of one without rows", Check.STATE, desk -> desk.and(), region());
        refused("or() of one without rows", Check.STATE, desk -> desk.or(), region());
        refused("within() of one without rows", Check.STATE, desk -> desk.within(), region());
    }

    private static void upperTwo() {
        Check.sentence("AND (OR) of the upper two (P the lower one of them), in their place");
        RegionDesk and = fullDesk();
        and.and();
        Check.due("pile() behind and()", 5, and.pile());
        Check.due("and()", "[1 0 5 <=][0 1 5 <=, 1 0 6 <=]", told(and));
        and.drop();
        Check.due("the one below", "[]", told(and));
        RegionDesk or = fullDesk();
        or.or();
        Check.due("pile() behind or()", 5, or.pile());
        Check.due("or()", "[1 0 5 <=][0 1 5 <=][1 0 6 <=]", told(or));
        or.drop();
        Check.due("the one below", "[]", told(or));
        RegionDesk not = fullDesk();
        not.not();
        Check.due("pile() behind not()", 6, not.pile());
        Check.due("not()", "[-1 0 -6 <]", told(not));
        not.drop();
        Check.due("the one below", "[1 0 5 <=][0 1 5 <=]", told(not));
        RegionDesk free = fullDesk();
        free.free(0);
        Check.due("pile() behind free()", 6, free.pile());
        Check.due("free()", "[]", told(free));
        free.drop();
        Check.due("the one below", "[1 0 5 <=][0 1 5 <=]", told(free));
    }

    private static void oneIsNeeded() {
        Check.sentence("IllegalStateException if there is none");
        refused("not()", Check.STATE, desk -> desk.not());
        refused("free(0)", Check.STATE, desk -> desk.free(0));
        refused("free(1)", Check.STATE, desk -> desk.free(1));
        refused("keep(0)", Check.STATE, desk -> desk.keep(0));
        refused("keep(3)", Check.STATE, desk -> desk.keep(3));
        refused("rows()", Check.STATE, desk -> desk.rows());
        refused("members(0)", Check.STATE, desk -> desk.members(0));
        refused("members(-1)", Check.STATE, desk -> desk.members(-1));
        refused("part(0, 0, 0)", Check.STATE, desk -> desk.part(0, 0, 0));
        refused("part(0, 0, 4)", Check.STATE, desk -> desk.part(0, 0, 4));
        refused("holds(0, 0, 1)", Check.STATE, desk -> desk.holds(0, 0, 1));
        refused("holds(0, 0, 0)", Check.STATE, desk -> desk.holds(0, 0, 0));
        refused("least(1, 0)", Check.STATE, desk -> desk.least(1, 0));
        refused("least(101, 0)", Check.STATE, desk -> desk.least(101, 0));
        RegionDesk desk = with(1, 0, 1, 0);
        desk.drop();
        Check.state("rows() behind the last drop()", () -> desk.rows());
        lay(desk, 1, 0, 1, 0);
        desk.keep(0);
        Check.state("rows() behind the last keep()", () -> desk.rows());
    }

    private static void columns() {
        Check.sentence("IllegalArgumentException if there is no such column");
        int[] corner = row(1, 0, 1, 0, 0, 1, 2, 0);
        Check.due("free(0)", "[0 1 2 <=]", free(0, corner));
        Check.due("free(1)", "[1 0 1 <=]", free(1, corner));
        for (int column : new int[] {-1, 2, FAR[0], FAR[3]}) {
            refused("free(" + column + ")", Check.ARGUMENT, desk -> desk.free(column), region(corner));
            refused("free(" + column + ") of no rows", Check.ARGUMENT, desk -> desk.free(column), region());
            refused("free(" + column + ") of none", Check.ARGUMENT, desk -> desk.free(column));
        }
    }

    private static void tables() {
        Check.sentence("IllegalArgumentException if there is no such table");
        for (int table : new int[] {-1, 4, FAR[0], FAR[3]}) {
            refused("keep(" + table + ")", Check.ARGUMENT, desk -> desk.keep(table), region(row(1, 0, 1, 0)));
            refused("keep(" + table + ") of none", Check.ARGUMENT, desk -> desk.keep(table));
            refused("load(" + table + ")", Check.ARGUMENT, desk -> desk.load(table), region(row(1, 0, 1, 0)));
            refused("load(" + table + ") on none", Check.ARGUMENT, desk -> desk.load(table));
            Check.refused("load(" + table + ") on six", Check.ARGUMENT, CallsTest::fullDesk, desk -> desk.load(table));
        }
    }

    private static void keepInPlace() {
        Check.sentence("A table holds what the uppermost one is (in place of what it held), which goes");
        for (int table = 0; table < 4; table++) {
            RegionDesk desk = desk(region(row(1, 0, 1, 0)), region(row(5, 0, 1, 0), row(0, 5, 1, 1)), region());
            desk.keep(table);
            Check.due("pile()", 2, desk.pile());
            Check.due("load(" + table + ")", 3, desk.load(table));
            Check.due("without rows, in place of some", "", told(desk));
            desk.drop();
            desk.keep(table);
            Check.due("pile()", 1, desk.pile());
            Check.due("the one below", "[1 0 1 <=]", told(desk));
            desk.load(table);
            Check.due("some, in place of none", "[5 0 1 <=][0 5 1 <]", told(desk));
            desk.drop();
            desk.keep(table);
            Check.due("pile() behind the last", 0, desk.pile());
            desk.load(table);
            Check.due("one, in place of two", "[1 0 1 <=]", told(desk));
        }
        RegionDesk desk = desk(region(row(1, 0, 1, 0)));
        desk.keep(2);
        for (int table = 0; table < 4; table++) {
            desk.load(table);
        }
        Check.due("table 3 is as it was", "[0 -7 5 <]", told(desk));
        desk.drop();
        Check.due("table 2", "[1 0 1 <=]", told(desk));
        desk.drop();
        Check.due("table 1 is as it was", "[-2 0 -1 <=][0 5 7 <]", told(desk));
        desk.drop();
        Check.due("table 0 is as it was", "[1 2 3 <=]", told(desk));
    }

    private static void loadStill() {
        Check.sentence("What a table holds (it still does) comes onto the pile: how many lie there");
        RegionDesk desk = furnished();
        for (int i = 1; i <= 6; i++) {
            Check.due("load(1)", i, desk.load(1));
        }
        Check.due("the sixth", "[-2 0 -1 <=][0 5 7 <]", told(desk));
        desk.not();
        desk.drop();
        Check.due("the fifth is its own", "[-2 0 -1 <=][0 5 7 <]", told(desk));
        desk.free(0);
        desk.drop();
        desk.load(1);
        Check.due("the table still does", "[-2 0 -1 <=][0 5 7 <]", told(desk));
        desk.and();
        desk.load(2);
        desk.or();
        desk.keep(0);
        desk.load(1);
        Check.due("the table still does", "[-2 0 -1 <=][0 5 7 <]", told(desk));
        RegionDesk kept = with(1, 0, 1, 0);
        kept.keep(0);
        lay(kept, 0, 1, 1, 0);
        kept.load(0);
        Check.due("the place that it had is taken by another", "[1 0 1 <=]", told(kept));
    }

    private static void loadOfSix() {
        Check.sentence("load: IllegalStateException if there are six");
        for (int table = 0; table < 4; table++) {
            int number = table;
            Check.refused("load(" + table + ")", Check.STATE, CallsTest::fullDesk, desk -> desk.load(number));
        }
        RegionDesk desk = fullDesk();
        desk.drop();
        Check.due("load(0) on five", 6, desk.load(0));
    }

    private static void drop() {
        Check.sentence("The uppermost one goes: whether there was one");
        RegionDesk desk = fullDesk();
        for (int i = 5; i >= 0; i--) {
            Check.due("drop()", true, desk.drop());
            Check.due("pile()", i, desk.pile());
        }
        Check.due("drop() of none", false, desk.drop());
        Check.due("drop() of none again", false, desk.drop());
        Check.due("pile()", 0, desk.pile());
        Check.due("what was collected stays", 3, desk.member(1, 0, 0, false));
        Check.due("load()", 1, desk.load(1));
        Check.due("drop()", true, desk.drop());
    }

    /** A desk whose lowest place held rows of twelve members, and now just a row of these. */
    private static RegionDesk reused(int... numbers) {
        RegionDesk desk = new RegionDesk();
        layAll(desk, tangents(0), tangents(2));
        desk.keep(0);
        lay(desk, numbers);
        return desk;
    }

    private static void nothingIsLeft() {
        Check.sentence("The uppermost one goes: nothing is left of it where another comes");
        RegionDesk desk = reused(-1, 1, 9, 1);
        Check.due("the other", "[-1 1 9 <]", told(desk));
        Check.due("holds()", true, desk.holds(100, -100, 1));
        Check.due("holds()", false, desk.holds(0, 9, 1));
        leastIs(desk, -1, 0, 2, 0, 0);
        leastIs(desk, 0, 1, 2, 0, 0);
        leastIs(desk, 1, -1, 1, -9, 1);
        leastIs(reused(-1, 0, 9, 0), 1, 1, 2, 0, 0);
        desk.free(0);
        Check.due("free(0)", "[]", told(desk));
        desk = reused(0, 1, 9, 1);
        desk.free(0);
        Check.due("free(0)", "[0 1 9 <]", told(desk));
        desk.free(1);
        Check.due("free(1)", "[]", told(desk));
        desk = reused(-1, 1, 9, 1);
        desk.keep(0);
        desk.load(0);
        Check.due("keep() in place of it", "[-1 1 9 <]", told(desk));
        Check.due("holds()", true, desk.holds(100, -100, 1));
    }

    private static void nothingIsLeftForTwo() {
        Check.sentence("The uppermost one goes: nothing is left of it in what is made of the other");
        RegionDesk desk = reused(-1, 1, 9, 1);
        desk.not();
        Check.due("not()", "[1 -1 -9 <=]", told(desk));
        desk = reused(-1, 1, 9, 1);
        lay(desk, 1, 0, 5, 0);
        desk.and();
        Check.due("and()", "[-1 1 9 <, 1 0 5 <=]", told(desk));
        desk = reused(-1, 1, 9, 1);
        lay(desk, 1, 0, 5, 0);
        desk.or();
        Check.due("or()", "[-1 1 9 <][1 0 5 <=]", told(desk));
        desk = reused(-1, 1, 9, 1);
        lay(desk, -1, 1, 8, 0);
        Check.due("within()", true, desk.within());
    }

    private static void pile() {
        Check.sentence("How many lie on the pile");
        RegionDesk desk = new RegionDesk();
        for (int i = 0; i < 6; i++) {
            Check.due("pile()", i, desk.pile());
            desk.member(1, 0, i, false);
            Check.due("pile() behind member()", i, desk.pile());
            desk.row();
        }
        Check.due("pile()", 6, desk.pile());
        Check.state("row()", () -> desk.row());
        Check.due("pile()", 6, desk.pile());
    }

    private static void rows() {
        Check.sentence("How many rows the uppermost one has");
        RegionDesk desk = new RegionDesk();
        layAll(desk);
        Check.due("without rows", 0, desk.rows());
        desk.row();
        Check.due("the row without members", 1, desk.rows());
        for (int i = 1; i < 12; i++) {
            lay(desk, 1, 0, i, 0);
            Check.due("the row on top", 1, desk.rows());
            desk.or();
            Check.due("one more", i + 1, desk.rows());
        }
    }

    private static void members() {
        Check.sentence("members: IndexOutOfBoundsException if there is no such row");
        int[][] three = region(row(1, 0, 1, 0), row(), row(1, 1, 5, 0, -1, 0, 0, 0, 0, -1, 0, 0));
        RegionDesk desk = desk(region(row(), row(1, 0, 1, 0), row(1, 0, 2, 0), row(1, 0, 3, 0)), three);
        Check.due("members(0)", 1, desk.members(0));
        Check.due("members(1)", 0, desk.members(1));
        Check.due("members(2)", 3, desk.members(2));
        for (int r : new int[] {-1, 3, 4, 11, 12, FAR[0], FAR[3]}) {
            refused("members(" + r + ") of three rows", Check.INDEX, d -> d.members(r), three);
            refused("part(" + r + ", 0, 0) of three rows", Check.INDEX, d -> d.part(r, 0, 0), three);
        }
        for (int r : new int[] {-1, 0, 1, FAR[0], FAR[3]}) {
            refused("members(" + r + ") of no rows", Check.INDEX, d -> d.members(r), region());
            refused("part(" + r + ", 0, 0) of no rows", Check.INDEX, d -> d.part(r, 0, 0), region());
        }
        RegionDesk full = new RegionDesk();
        for (int i = 0; i < 12; i++) {
            lay(full, 1, 0, i, 0);
            if (i > 0) {
                full.or();
            }
        }
        Check.due("the twelfth row", 1, full.members(11));
        Check.due("the twelfth row", 11, full.part(11, 0, 2));
        Check.index("the thirteenth row", () -> full.members(12));
        full.drop();
        lay(full, 1, 0, 0, 0);
        Check.index("the second row, where there were twelve", () -> full.members(1));
    }

    private static void partOfMembers() {
        Check.sentence("part: IndexOutOfBoundsException .. if there is no such member");
        int[][] two = region(row(1, 0, 1, 0, 0, 1, 1, 0), row());
        for (int i : new int[] {-1, 2, 3, 11, 12, FAR[0], FAR[3]}) {
            refused("part(0, " + i + ", 0) of two", Check.INDEX, d -> d.part(0, i, 0), two);
            refused("part(0, " + i + ", 4) of two", Check.INDEX, d -> d.part(0, i, 4), two);
        }
        for (int i : new int[] {-1, 0, 1, FAR[0], FAR[3]}) {
            refused("part(1, " + i + ", 3) of none", Check.INDEX, d -> d.part(1, i, 3), two);
        }
        int[] twelve = tangents(2);
        RegionDesk desk = with(twelve);
        for (int i = 0; i < 12; i++) {
            for (int what = 0; what < 4; what++) {
                Check.due("part(0, " + i + ", " + what + ")", twelve[4 * i + what], desk.part(0, i, what));
            }
        }
        Check.index("the thirteenth member", () -> desk.part(0, 12, 0));
        desk.drop();
        lay(desk, 1, 0, 1, 0);
        Check.index("the second member, where there were twelve", () -> desk.part(0, 1, 0));
    }

    private static void partOfWhat() {
        Check.sentence("part: IllegalArgumentException if there is no such what");
        int[][] rows = region(row(1, 0, 1, 0), row(-10000, 9999, 10000, 1));
        for (int what : new int[] {-1, 4, FAR[0], FAR[3]}) {
            refused("part(1, 0, " + what + ")", Check.ARGUMENT, d -> d.part(1, 0, what), rows);
            refused("part(2, 0, " + what + "), no such row", Check.INDEX, d -> d.part(2, 0, what), rows);
            refused("part(1, 1, " + what + "), no such member", Check.INDEX, d -> d.part(1, 1, what), rows);
        }
        RegionDesk desk = desk(rows);
        Check.due("a", -10000, desk.part(1, 0, 0));
        Check.due("b", 9999, desk.part(1, 0, 1));
        Check.due("c", 10000, desk.part(1, 0, 2));
        Check.due("strict", 1, desk.part(1, 0, 3));
        Check.due("not strict", 0, desk.part(0, 0, 3));
    }

    private static void holdsPoints() {
        Check.sentence("Whether the point (p / d, q / d) belongs to the uppermost one");
        RegionDesk desk = with(3, 2, 1, 0, -1, 0, 5, 1);
        Check.due("on the edge", true, desk.holds(1, -1, 1));
        Check.due("on the edge, d = 5", true, desk.holds(1, 1, 5));
        Check.due("a thousandth beyond", false, desk.holds(201, 199, 1000));
        Check.due("a thousandth before", true, desk.holds(199, 201, 1000));
        Check.due("on the strict edge", false, desk.holds(-5, 0, 1));
        Check.due("on the strict edge, d = 1000", false, desk.holds(-5000, 0, 1000));
        Check.due("a thousandth before it", true, desk.holds(-4999, 0, 1000));
        Check.due("a thousandth beyond it", false, desk.holds(-5001, 0, 1000));
        lay(desk, 1, 0, 1, 1);
        lay(desk, -1, 0, -1, 1);
        desk.or();
        Check.due("between two rows", false, desk.holds(7, 0, 7));
        Check.due("in the first", true, desk.holds(6, 0, 7));
        Check.due("in the last", true, desk.holds(8, 0, 7));
    }

    private static void holdsOfNothing() {
        Check.sentence("holds, of a region without rows and of the row without members");
        RegionDesk desk = new RegionDesk();
        layAll(desk);
        Check.due("without rows", false, desk.holds(0, 0, 1));
        Check.due("without rows", false, desk.holds(10000, -10000, 1000));
        desk.row();
        Check.due("without members", true, desk.holds(0, 0, 1));
        Check.due("without members", true, desk.holds(10000, -10000, 1000));
    }

    private static void holdsNumbers() {
        Check.sentence("IllegalArgumentException if p or q is not -10000 .. 10000, or d not 1 .. 1000");
        int[][] half = region(row(10000, 10000, 10000, 0));
        RegionDesk desk = desk(half);
        Check.due("holds(10000, 10000, 1)", false, desk.holds(10000, 10000, 1));
        Check.due("holds(-10000, -10000, 1)", true, desk.holds(-10000, -10000, 1));
        Check.due("holds(10000, -10000, 1000)", true, desk.holds(10000, -10000, 1000));
        Check.due("holds(-10000, 10000, 1000)", true, desk.holds(-10000, 10000, 1000));
        Check.due("holds(10000, -9000, 1000)", true, desk.holds(10000, -9000, 1000));
        Check.due("holds(10000, -8999, 1000)", false, desk.holds(10000, -8999, 1000));
        for (int far : new int[] {-10001, 10001, FAR[0], FAR[3]}) {
            refused("p = " + far, Check.ARGUMENT, d -> d.holds(far, 0, 1), half);
            refused("q = " + far, Check.ARGUMENT, d -> d.holds(0, far, 1), half);
            refused("p = " + far + " of no rows", Check.ARGUMENT, d -> d.holds(far, 0, 1000), region());
        }
        for (int far : new int[] {0, -1, 1001, FAR[0], FAR[3]}) {
            refused("d = " + far, Check.ARGUMENT, d -> d.holds(0, 0, far), half);
            refused("d = " + far + " of no rows", Check.ARGUMENT, d -> d.holds(0, 0, far), region());
        }
    }

    private static boolean within(int[][] lower, int[][] upper) {
        return desk(lower, upper).within();
    }

    private static void withinOfNothing() {
        Check.sentence("within, of regions without rows and of the row without members");
        int[][] none = region();
        int[][] all = region(row());
        int[][] half = region(row(1, 0, 0, 0));
        Check.due("none in none", true, within(none, none));
        Check.due("none in some", true, within(half, none));
        Check.due("none in all", true, within(all, none));
        Check.due("some in none", false, within(none, half));
        Check.due("some in all", true, within(all, half));
        Check.due("all in none", false, within(none, all));
        Check.due("all in some", false, within(half, all));
        Check.due("all in all", true, within(all, all));
        Check.due("all in two halves", true, within(region(row(1, 0, 0, 0), row(-1, 0, 0, 1)), all));
        Check.due("all in two halves without their line", false,
                within(region(row(1, 0, 0, 1), row(-1, 0, 0, 1)), all));
    }

    private static void withinOfEdges() {
        Check.sentence("Whether all points of the uppermost one belong to the one below it");
        int[][] closed = region(row(2, 1, 5, 0));
        int[][] open = region(row(2, 1, 5, 1));
        Check.due("the same", true, within(closed, closed));
        Check.due("the same strict one", true, within(open, open));
        Check.due("the strict one in the other", true, within(closed, open));
        Check.due("the other in the strict one", false, within(open, closed));
        Check.due("a row more above", false, within(closed, region(row(2, 1, 5, 0), row(1, 0, 0, 0))));
        Check.due("a row more below", true, within(region(row(1, 0, 0, 0), row(2, 1, 5, 0)), closed));
        int[][] line = region(row(1, 0, 0, 0, -1, 0, 0, 0));
        int[][] point = region(row(1, 0, 0, 0, -1, 0, 0, 0, 0, 1, 0, 0, 0, -1, 0, 0));
        Check.due("a point in a line", true, within(line, point));
        Check.due("a line in a point", false, within(point, line));
    }

    private static void withinChangesNothing() {
        Check.sentence("within: Nothing changes");
        int[][] lower = region(row(1, 0, 1, 0), row(0, 1, 1, 0));
        for (int[][] upper : new int[][][] {region(), region(row()), region(row(1, 0, 0, 0, 0, 1, 7, 1)), lower}) {
            RegionDesk desk = desk(region(row(3, 0, 1, 0)), lower, upper);
            desk.within();
            Check.due("all there is", wholly(desk(region(row(3, 0, 1, 0)), lower, upper)), wholly(desk));
        }
    }

    private static void leastIs(RegionDesk desk, int f, int g, int kind, long top, long base) {
        String call = "least(" + f + ", " + g + ")";
        Check.due(call, kind, desk.least(f, g));
        Check.due("value(0) behind " + call, top, desk.value(0));
        Check.due("value(1) behind " + call, base, desk.value(1));
    }

    private static void leastTaken() {
        Check.sentence("The infimum of f x + g y over the points of the uppermost one: 0 it is taken");
        RegionDesk corner = with(-2, 0, -1, 0, 0, -3, -1, 0);
        leastIs(corner, 1, 1, 0, 5, 6);
        leastIs(corner, 1, 0, 0, 1, 2);
        leastIs(corner, 0, 1, 0, 1, 3);
        leastIs(corner, 100, 100, 0, 250, 3);
        RegionDesk edge = with(-6, -4, 7, 0);
        leastIs(edge, 3, 2, 0, -7, 2);
        RegionDesk strictElsewhere = with(-1, 0, 0, 0, 0, -1, 0, 0, 1, 1, 4, 1);
        leastIs(strictElsewhere, 1, 1, 0, 0, 1);
        RegionDesk point = with(3, 0, 1, 0, -3, 0, -1, 0, 0, 7, 2, 0, 0, -7, -2, 0);
        leastIs(point, 3, 7, 0, 3, 1);
        leastIs(point, -3, -7, 0, -3, 1);
        leastIs(point, 100, -100, 0, 100, 21);
        RegionDesk halfLine = with(0, 1, 5, 0, 0, -1, -5, 0, -1, 0, 0, 1);
        leastIs(halfLine, 0, 1, 0, 5, 1);
        leastIs(halfLine, 0, -1, 0, -5, 1);
    }

    private static void leastNotTaken() {
        Check.sentence("least: 1 it is not");
        RegionDesk half = with(-3, -2, -7, 1);
        leastIs(half, 3, 2, 1, 7, 1);
        leastIs(half, 6, 4, 1, 14, 1);
        RegionDesk corner = with(-2, 0, -1, 1, 0, -3, -1, 0);
        leastIs(corner, 1, 1, 1, 5, 6);
        leastIs(corner, 1, 0, 1, 1, 2);
        leastIs(corner, 0, 1, 0, 1, 3);
        // A strict member that touches just the corner keeps it from being taken.
        RegionDesk touched = with(-1, 0, 0, 0, 0, -1, 0, 0, -1, -1, 0, 1);
        leastIs(touched, 1, 2, 1, 0, 1);
        leastIs(touched, 1, 1, 1, 0, 1);
        leastIs(touched, 1, 0, 0, 0, 1);
        RegionDesk touchedLast = with(1, 0, 0, 0, 0, 1, 0, 0, 1, 1, 0, 1);
        leastIs(touchedLast, -1, -2, 1, 0, 1);
        leastIs(touchedLast, -2, -1, 1, 0, 1);
        leastIs(touchedLast, 0, -1, 0, 0, 1);
        RegionDesk halfLine = with(0, 1, 5, 0, 0, -1, -5, 0, -1, 0, 0, 1);
        leastIs(halfLine, 1, 0, 1, 0, 1);
        leastIs(halfLine, 1, 1, 1, 5, 1);
    }

    private static void leastThatThereIsNot() {
        Check.sentence("least: 2 there is none (below all bounds)");
        leastIs(with(), 1, 0, 2, 0, 0);
        leastIs(with(), -100, 100, 2, 0, 0);
        RegionDesk half = with(-3, -2, -7, 0);
        leastIs(half, -3, -2, 2, 0, 0);
        leastIs(half, 1, 0, 2, 0, 0);
        leastIs(half, 4, 2, 2, 0, 0);
        leastIs(half, 3, 2, 0, 7, 1);
        RegionDesk strip = with(1, 0, 1, 0, -1, 0, 1, 0);
        leastIs(strip, 0, 1, 2, 0, 0);
        leastIs(strip, 1, 1, 2, 0, 0);
        leastIs(strip, -1, 0, 0, -1, 1);
        RegionDesk line = with(1, 1, 1, 0, -1, -1, -1, 0);
        leastIs(line, 1, 0, 2, 0, 0);
        leastIs(line, -2, -2, 0, -2, 1);
    }

    private static void leastOfNoPoints() {
        Check.sentence("least: 3 there are no points");
        RegionDesk desk = new RegionDesk();
        desk.load(0);
        leastIs(desk, 1, 0, 3, 0, 0);
        leastIs(desk, 0, 0, 3, 0, 0);
        leastIs(desk, -100, 100, 3, 0, 0);
        lay(desk, 1, 0, 0, 1, -1, 0, 0, 1);
        leastIs(desk, 0, 1, 3, 0, 0);
    }

    private static void leastOfZeros() {
        Check.sentence("The infimum of 0 x + 0 y");
        leastIs(with(), 0, 0, 0, 0, 1);
        leastIs(with(1, 0, 0, 1), 0, 0, 0, 0, 1);
        leastIs(with(1, 0, 1, 0, -1, 0, -1, 0, 0, 1, 5, 1), 0, 0, 0, 0, 1);
    }

    /** y above the parabola's tangents at x = 0 .. 11, each so manieth one strict (0: none). */
    private static int[] tangents(int strictEach) {
        int[] numbers = new int[48];
        for (int k = 0; k < 12; k++) {
            numbers[4 * k] = 2 * k;
            numbers[4 * k + 1] = -1;
            numbers[4 * k + 2] = k * k;
            numbers[4 * k + 3] = strictEach > 0 && k % strictEach == strictEach - 1 ? 1 : 0;
        }
        return numbers;
    }

    private static void leastOfManyCorners() {
        Check.sentence("The infimum over a row of twelve members");
        RegionDesk closed = with(tangents(0));
        RegionDesk half = with(tangents(2));
        RegionDesk third = with(tangents(3));
        for (int k = 0; k < 11; k++) {
            leastIs(closed, -2 * k - 1, 1, 0, -2 * k * k - 2 * k - 1, 2);
            leastIs(half, -2 * k - 1, 1, 1, -2 * k * k - 2 * k - 1, 2);
            leastIs(closed, -2 * k, 1, 0, -k * k, 1);
            leastIs(half, -2 * k, 1, k % 2, -k * k, 1);
            leastIs(third, -2 * k - 1, 1, k % 3 == 0 ? 0 : 1, -2 * k * k - 2 * k - 1, 2);
            leastIs(third, -2 * k, 1, k % 3 == 2 ? 1 : 0, -k * k, 1);
        }
        leastIs(closed, -22, 1, 0, -121, 1);
        leastIs(closed, -23, 1, 2, 0, 0);
        leastIs(closed, 1, 1, 2, 0, 0);
        leastIs(closed, 0, -1, 2, 0, 0);
    }

    private static void leastOfUnions() {
        Check.sentence("The infimum over the points of any row");
        int[] closed = row(-1, 0, -3, 0);
        leastIs(withAll(row(-1, 0, -3, 1), closed), 1, 0, 0, 3, 1);
        leastIs(withAll(closed, row(-1, 0, -3, 1)), 1, 0, 0, 3, 1);
        leastIs(withAll(closed, row(-2, 0, -5, 1)), 1, 0, 1, 5, 2);
        leastIs(withAll(row(-2, 0, -5, 1), closed), 1, 0, 1, 5, 2);
        leastIs(withAll(closed, row(0, -1, 0, 0)), 1, 0, 2, 0, 0);
        leastIs(withAll(row(0, -1, 0, 0), closed), 1, 0, 2, 0, 0);
    }

    private static void leastNumbers() {
        Check.sentence("IllegalArgumentException if f or g is not -100 .. 100");
        int[][] box = region(row(1, 0, 1, 0, -1, 0, 0, 0, 0, 1, 1, 0, 0, -1, 0, 0));
        RegionDesk desk = desk(box);
        leastIs(desk, 100, 0, 0, 0, 1);
        leastIs(desk, -100, 0, 0, -100, 1);
        leastIs(desk, 0, 100, 0, 0, 1);
        leastIs(desk, 0, -100, 0, -100, 1);
        leastIs(desk, -100, -100, 0, -200, 1);
        for (int far : new int[] {-101, 101, FAR[0], FAR[3]}) {
            refused("f = " + far, Check.ARGUMENT, d -> d.least(far, 0), box);
            refused("g = " + far, Check.ARGUMENT, d -> d.least(0, far), box);
            refused("f = " + far + " of no rows", Check.ARGUMENT, d -> d.least(far, 1), region());
        }
    }

    private static void valueBehindEach() {
        Check.sentence("0 if the last one told another answer, or there was none");
        RegionDesk desk = new RegionDesk();
        Check.due("value(0), there was none", 0, desk.value(0));
        Check.due("value(1), there was none", 0, desk.value(1));
        lay(desk, -2, 0, -3, 1);
        leastIs(desk, 1, 0, 1, 3, 2);
        leastIs(desk, 0, 1, 2, 0, 0);
        leastIs(desk, 1, 0, 1, 3, 2);
        desk.load(0);
        leastIs(desk, 1, 0, 3, 0, 0);
        leastIs(desk, 0, 0, 3, 0, 0);
        lay(desk, -3, 0, 5, 0);
        leastIs(desk, 1, 0, 0, -5, 3);
        leastIs(desk, -1, 0, 2, 0, 0);
        leastIs(desk, 0, 0, 0, 0, 1);
    }

    private static void valueStays() {
        Check.sentence("Of the infimum that least() told last with 0 or 1");
        RegionDesk desk = with(-2, 0, -3, 1);
        leastIs(desk, 1, 0, 1, 3, 2);
        Check.due("value(0) again", 3, desk.value(0));
        Check.due("value(1) again", 2, desk.value(1));
        Check.argument("least(101, 0)", () -> desk.least(101, 0));
        Check.due("value(0) behind a refused least()", 3, desk.value(0));
        Check.due("value(1) behind a refused least()", 2, desk.value(1));
        Check.argument("value(2)", () -> desk.value(2));
        Check.due("value(0) behind a refused value()", 3, desk.value(0));
        lay(desk, 1, 0, 1, 0);
        desk.within();
        desk.and();
        desk.not();
        desk.free(0);
        desk.keep(0);
        Check.due("value(0) behind other calls", 3, desk.value(0));
        Check.due("value(1) behind other calls", 2, desk.value(1));
        Check.state("least() of none", () -> desk.least(1, 0));
        Check.due("value(0) behind a refused least()", 3, desk.value(0));
        Check.due("value(1) behind a refused least()", 2, desk.value(1));
    }

    private static void valueInLowestTerms() {
        Check.sentence("its numerator (0) or denominator (1, above 0), in lowest terms");
        leastIs(with(-4, 0, -6, 1), 1, 0, 1, 3, 2);
        leastIs(with(-4, 0, 6, 0), 1, 0, 0, -3, 2);
        leastIs(with(-4, 0, 6, 0), 2, 0, 0, -3, 1);
        leastIs(with(-4, 0, 0, 0), 7, 0, 0, 0, 1);
        leastIs(with(-1, -1, 0, 0, -1, 1, 0, 0), 100, 7, 0, 0, 1);
        leastIs(with(-9999, 0, 10000, 0), 100, 0, 0, -1000000, 9999);
        leastIs(with(-10000, -9999, -9998, 0, 9999, -10000, -9995, 0), -1, 100, 0, 19991960205L, 199980001);
    }

    private static void valueParts() {
        Check.sentence("value: IllegalArgumentException for another part");
        for (int part : new int[] {-1, 2, FAR[0], FAR[3]}) {
            refused("value(" + part + ")", Check.ARGUMENT, d -> d.value(part), region(row(1, 0, 1, 0)));
            Check.argument("value(" + part + ") where there was none", () -> new RegionDesk().value(part));
        }
    }
}
