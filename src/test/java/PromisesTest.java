/** Promise by promise: ordinary inputs, the edges that the document names, and wrong inputs. */
public final class PromisesTest {
    private PromisesTest() {
    }

    public static void main(String[] args) {
        newObject();
        member();
        memberEdges();
        row();
        normalForm();
        normalFormOrder();
        impliedMembers();
        rowsWithoutPoints();
        and();
        andLimits();
        or();
        orLimits();
        not();
        notLimits();
        free();
        freeLimits();
        keepAndLoad();
        dropAndPile();
        rowsAndMembers();
        part();
        holds();
        within();
        withinLimits();
        least();
        leastOfUnions();
        leastOfFarNumbers();
        value();
        Check.end();
    }

    private static void newObject() {
        RegionDesk desk = new RegionDesk();
        Check.due("pile of a new object", 0, desk.pile());
        Check.due("member of a new object", 1, desk.member(1, 2, 3, false));
        Check.due("value of a new object", 0, desk.value(0));
        Check.due("value of a new object", 0, desk.value(1));
        for (int table = 0; table < 4; table++) {
            Check.due("load of a new object", table + 1, desk.load(table));
            Check.due("a table at first", 0, desk.rows());
        }
    }

    private static void member() {
        RegionDesk desk = new RegionDesk();
        Check.due("member", 1, desk.member(1, 2, 3, false));
        Check.due("the same member", 2, desk.member(1, 2, 3, false));
        Check.argument("a and b 0", () -> desk.member(0, 0, 0, false));
        Check.argument("a and b 0, strict", () -> desk.member(0, 0, 1, true));
        Check.due("member behind refused ones", 3, desk.member(0, -5, 3, true));
        for (int i = 4; i <= 12; i++) {
            Check.due("member", i, desk.member(i, 1, 3, false));
        }
        Check.state("the thirteenth member", () -> desk.member(1, 2, 3, false));
        Check.argument("the thirteenth member, a and b 0", () -> desk.member(0, 0, 3, false));
        Check.argument("the thirteenth member, far", () -> desk.member(1, 2, 10001, false));
        desk.row();
        Check.due("member behind row", 1, desk.member(1, 2, 3, false));
    }

    private static void memberEdges() {
        RegionDesk desk = new RegionDesk();
        Check.due("highest numbers", 1, desk.member(10000, 10000, 10000, false));
        Check.due("lowest numbers", 2, desk.member(-10000, -10000, -10000, false));
        for (int far : new int[] {10001, -10001, Integer.MAX_VALUE, Integer.MIN_VALUE}) {
            Check.argument("a far", () -> desk.member(far, 1, 1, false));
            Check.argument("b far", () -> desk.member(1, far, 1, false));
            Check.argument("c far", () -> desk.member(1, 1, far, true));
        }
        Check.due("member", 3, desk.member(10000, 0, -10000, true));
    }

    private static void row() {
        RegionDesk desk = new RegionDesk();
        Check.due("row of nothing", 1, desk.row());
        Check.due("row without members", "[]", Desks.told(desk));
        Desks.lay(desk, 1, 0, 4, 0);
        Check.due("row of one", "[1 0 4 <=]", Desks.told(desk));
        for (int i = 3; i <= 6; i++) {
            Check.due("row", i, desk.row());
        }
        desk.member(0, 1, 2, true);
        Check.state("the seventh", () -> desk.row());
        Check.due("pile behind it", 6, desk.pile());
        Check.due("member stays if row throws", 2, desk.member(0, 1, 3, true));
        desk.drop();
        Check.due("row", 6, desk.row());
        Check.due("what stayed", "[0 1 2 <]", Desks.told(desk));
        Check.due("member behind row", 1, desk.member(0, 1, 2, true));
    }

    private static void normalForm() {
        Check.due("divided", "[2 3 5 <=]", Desks.form(4, 6, 10, 0));
        Check.due("divided by what divides all three", "[4 6 9 <=]", Desks.form(4, 6, 9, 0));
        Check.due("c 0", "[2 3 0 <]", Desks.form(200, 300, 0, 1));
        Check.due("below 0", "[-2 -3 -5 <]", Desks.form(-20, -30, -50, 1));
        Check.due("farthest", "[-1 -1 -1 <=]", Desks.form(-10000, -10000, -10000, 0));
        Check.due("least c", "[1 2 3 <=]", Desks.form(1, 2, 4, 1, 1, 2, 3, 0, 1, 2, 5, 0));
        Check.due("least c last", "[1 2 -3 <=]", Desks.form(1, 2, 4, 1, 1, 2, -3, 0));
        Check.due("strict of equal ones", "[1 2 3 <]", Desks.form(1, 2, 3, 1, 1, 2, 3, 0));
        Check.due("strict of equal ones last", "[1 2 3 <]", Desks.form(2, 4, 6, 0, 1, 2, 3, 1));
        Check.due("the same twice", "[1 2 3 <=]", Desks.form(1, 2, 3, 0, 3, 6, 9, 0));
        Check.due("parallel", "[2 4 5 <=]", Desks.form(1, 2, 3, 0, 2, 4, 5, 0));
        Check.due("parallel", "[1 2 2 <=]", Desks.form(1, 2, 2, 0, 2, 4, 5, 1));
    }

    private static void normalFormOrder() {
        Check.due("ordered by a, then b", "[-1 0 5 <=, 0 -1 5 <=, 0 1 5 <=, 1 -1 9 <=, 1 1 9 <=]",
                Desks.form(1, 1, 9, 0, 0, 1, 5, 0, 1, -1, 9, 0, 0, -1, 5, 0, -1, 0, 5, 0));
    }

    private static void impliedMembers() {
        Check.due("implied by two", "[0 1 1 <=, 1 0 1 <=]", Desks.form(1, 0, 1, 0, 0, 1, 1, 0, 1, 1, 2, 0));
        Check.due("strict one at the corner stays", "[0 1 1 <=, 1 0 1 <=, 1 1 2 <]",
                Desks.form(1, 0, 1, 0, 0, 1, 1, 0, 1, 1, 2, 1));
        Check.due("strict one at a strict corner goes", "[0 1 1 <=, 1 0 1 <]",
                Desks.form(1, 0, 1, 1, 0, 1, 1, 0, 1, 1, 2, 1));
        // The point (0, 0) by many lines: those that come first go first.
        Check.due("the first go first", "[-1 0 0 <=, 0 1 0 <=, 1 -1 0 <=]",
                Desks.form(1, 0, 0, 0, -1, 0, 0, 0, 0, 1, 0, 0, 0, -1, 0, 0, 1, -1, 0, 0));
        Check.due("a line", "[-1 1 0 <=, 1 -1 0 <=]", Desks.form(1, -1, 0, 0, -1, 1, 0, 0));
        Check.due("a ray", "[-1 0 0 <=, 0 -1 0 <=, 0 1 0 <=]",
                Desks.form(0, 1, 0, 0, 0, -1, 0, 0, -1, 0, 0, 0));
    }

    private static void rowsWithoutPoints() {
        Check.due("crossed", "", Desks.form(1, 0, 1, 0, -1, 0, -2, 0));
        Check.due("touching", "[-1 0 -1 <=, 1 0 1 <=]", Desks.form(1, 0, 1, 0, -1, 0, -1, 0));
        Check.due("touching, strict", "", Desks.form(1, 0, 1, 0, -1, 0, -1, 1));
        Check.due("three", "", Desks.form(-1, 0, 0, 0, 0, -1, 0, 0, 1, 1, -1, 0));
        Check.due("three through a point", "[-1 0 0 <=, 0 -1 0 <=, 1 1 0 <=]",
                Desks.form(-1, 0, 0, 0, 0, -1, 0, 0, 1, 1, 0, 0));
        Check.due("three through a point, strict", "", Desks.form(-1, 0, 0, 0, 0, -1, 0, 1, 1, 1, 0, 0));
        Check.due("narrow", "", Desks.form(9999, -10000, 0, 1, -9999, 10000, 0, 0));
    }

    private static void and() {
        RegionDesk desk = Desks.with(1, 0, 0, 0);
        Check.state("and of one", () -> desk.and());
        Desks.lay(desk, 1, 0, 5, 0);
        desk.or();
        Desks.lay(desk, 0, 1, 0, 0);
        Desks.lay(desk, 0, 1, 7, 1);
        desk.or();
        desk.and();
        Check.due("pile behind and", 1, desk.pile());
        Check.due("rows of the lower one first", "[0 1 0 <=, 1 0 0 <=][0 1 7 <, 1 0 0 <=]"
                + "[0 1 0 <=, 1 0 5 <=][0 1 7 <, 1 0 5 <=]", Desks.told(desk));
        Desks.lay(desk, -1, 0, -1, 0, 0, -1, -1, 0);
        desk.and();
        Check.due("those without points are none", "[-1 0 -1 <=, 0 -1 -1 <=, 0 1 7 <, 1 0 5 <=]", Desks.told(desk));
        Desks.lay(desk, 1, 0, 0, 0);
        desk.and();
        Check.due("none left", "", Desks.told(desk));
        Desks.lay(desk);
        desk.and();
        Check.due("none and all", "", Desks.told(desk));
        desk.drop();
        Check.state("and of none", () -> desk.and());
    }

    /** A polygon round (0, 0) with twelve sides, turned by a little. */
    private static int[] polygon(int turn) {
        int[][] sides = {{100, 0}, {87, 50}, {50, 87}, {0, 100}, {-50, 87}, {-87, 50},
            {-100, 0}, {-87, -50}, {-50, -87}, {0, -100}, {50, -87}, {87, -50}};
        int[] numbers = new int[48];
        for (int i = 0; i < 12; i++) {
            int a = sides[i][0];
            int b = sides[i][1];
            numbers[4 * i] = 10 * a - turn * b / 10;
            numbers[4 * i + 1] = 10 * b + turn * a / 10;
            numbers[4 * i + 2] = 9999;
        }
        return numbers;
    }

    private static void andLimits() {
        RegionDesk desk = Desks.with(polygon(0));
        Check.due("twelve members", 12, desk.members(0));
        String lower = Desks.told(desk);
        Desks.lay(desk, polygon(20));
        Check.due("twelve members", 12, desk.members(0));
        String upper = Desks.told(desk);
        Check.limit("more than twelve members", () -> desk.and());
        Check.due("pile behind it", 2, desk.pile());
        Check.due("the upper one behind it", upper, Desks.told(desk));
        desk.drop();
        Check.due("the lower one behind it", lower, Desks.told(desk));
        Desks.lay(desk, polygon(0));
        desk.and();
        Check.due("the same twice", lower, Desks.told(desk));

        RegionDesk many = new RegionDesk();
        layStrips(many, 4, true);
        layStrips(many, 3, false);
        many.and();
        Check.due("twelve rows", 12, many.rows());
        many.drop();
        layStrips(many, 4, true);
        layStrips(many, 4, false);
        Check.limit("more than twelve rows", () -> many.and());
        Check.due("pile behind it", 2, many.pile());
        Check.due("rows behind it", 4, many.rows());
    }

    /** The union of some strips 2 i <= x <= 2 i + 1, or of y. */
    private static void layStrips(RegionDesk desk, int count, boolean ofX) {
        int a = ofX ? 1 : 0;
        for (int i = 0; i < count; i++) {
            Desks.lay(desk, a, 1 - a, 2 * i + 1, 0, -a, a - 1, -2 * i, 0);
            if (i > 0) {
                desk.or();
            }
        }
    }

    private static void or() {
        RegionDesk desk = Desks.with(1, 0, 0, 0);
        Check.state("or of one", () -> desk.or());
        Desks.lay(desk, 1, 0, -5, 0);
        desk.or();
        Check.due("pile behind or", 1, desk.pile());
        Check.due("lower one first, though it has all", "[1 0 0 <=][1 0 -5 <=]", Desks.told(desk));
        Desks.lay(desk, 3, 0, -15, 0);
        Desks.lay(desk, 0, 1, 2, 0);
        desk.or();
        desk.or();
        Check.due("the same is not added", "[1 0 0 <=][1 0 -5 <=][0 1 2 <=]", Desks.told(desk));
        Desks.lay(desk, 1, 0, 0, 1);
        desk.or();
        Check.due("the strict one is another", "[1 0 0 <=][1 0 -5 <=][0 1 2 <=][1 0 0 <]", Desks.told(desk));
        desk.keep(0);
        desk.load(1);
        desk.load(0);
        desk.or();
        Check.due("none or some", "[1 0 0 <=][1 0 -5 <=][0 1 2 <=][1 0 0 <]", Desks.told(desk));
        desk.load(1);
        desk.or();
        Check.due("some or none", 4, desk.rows());
        desk.drop();
        Check.state("or of none", () -> desk.or());
    }

    private static void orLimits() {
        RegionDesk desk = new RegionDesk();
        layStrips(desk, 12, true);
        Check.due("twelve rows", 12, desk.rows());
        desk.keep(0);
        desk.load(0);
        desk.load(0);
        desk.or();
        Check.due("twelve that are there", 12, desk.rows());
        Desks.lay(desk, 0, 1, 0, 0);
        Check.limit("more than twelve rows", () -> desk.or());
        Check.due("pile behind it", 2, desk.pile());
        Check.due("the upper one behind it", "[0 1 0 <=]", Desks.told(desk));
        desk.load(2);
        desk.or();
        desk.load(0);
        Check.limit("more than twelve rows, the other way", () -> desk.or());
        desk.drop();
        desk.drop();
        Check.due("the lower one behind it", 12, desk.rows());
        desk.load(2);
        desk.or();
        Check.due("none more", 12, desk.rows());
    }

    private static void not() {
        RegionDesk desk = new RegionDesk();
        Check.state("not of none", () -> desk.not());
        desk.load(0);
        desk.not();
        Check.due("not of no rows", "[]", Desks.told(desk));
        desk.not();
        Check.due("not of all", "", Desks.told(desk));
        desk.drop();
        Desks.lay(desk, 1, 2, 3, 0);
        desk.not();
        Check.due("the contrary", "[-1 -2 -3 <]", Desks.told(desk));
        desk.not();
        Check.due("the contrary of a strict one", "[1 2 3 <=]", Desks.told(desk));
        Desks.lay(desk, 1, 0, 1, 0, 0, 1, 1, 1);
        desk.not();
        Check.due("with all members before", "[0 -1 -1 <=][-1 0 -1 <, 0 1 1 <]", Desks.told(desk));
        Desks.lay(desk, -1, 0, -1, 0, 1, 0, 1, 0);
        desk.not();
        Check.due("a part that makes one before it needless", "[1 0 1 <][-1 0 -1 <]", Desks.told(desk));
        desk.drop();
        Desks.lay(desk, 1, 0, 0, 0);
        Desks.lay(desk, 0, 1, 0, 0);
        desk.or();
        desk.not();
        Check.due("not of two rows", "[-1 0 0 <, 0 -1 0 <]", Desks.told(desk));
        desk.drop();
        Desks.lay(desk, 1, 0, 0, 0, 0, 1, 0, 0);
        Desks.lay(desk, -1, 0, 0, 0, 0, -1, 0, 0);
        desk.or();
        desk.not();
        Check.due("row for row", "[0 -1 0 <, 1 0 0 <][-1 0 0 <, 0 1 0 <]", Desks.told(desk));
        desk.drop();
        Desks.lay(desk, 1, 0, 5, 0);
        desk.load(0);
        desk.not();
        desk.or();
        desk.not();
        Check.due("a row with all points leaves none", "", Desks.told(desk));
    }

    private static void notLimits() {
        RegionDesk desk = new RegionDesk();
        layBoxes(desk, 3);
        desk.keep(0);
        desk.load(0);
        String before = Desks.told(desk);
        Check.limit("more than twelve rows", () -> desk.not());
        Check.due("pile behind it", 1, desk.pile());
        Check.due("the region behind it", before, Desks.told(desk));
        desk.drop();
        // In between there are more than twelve, though a last row with all points leaves none.
        desk.load(0);
        Desks.lay(desk);
        desk.or();
        Check.limit("more than twelve rows in between", () -> desk.not());
        Check.due("rows behind it", 4, desk.rows());
        desk.drop();
        Desks.lay(desk);
        desk.load(0);
        desk.or();
        desk.not();
        Check.due("a first row with all points leaves none", 0, desk.rows());
        desk.drop();
        Desks.lay(desk, polygon(0));
        desk.not();
        Check.due("twelve parts", 12, desk.rows());
        Check.due("the last part", true, desk.members(11) <= 12);
        desk.not();
        Check.due("and back", 12, desk.members(0));
        Check.due("and back", 1, desk.rows());
    }

    /** Some boxes of one by one, along the line x = y. */
    private static void layBoxes(RegionDesk desk, int count) {
        for (int i = 0; i < count; i++) {
            Desks.lay(desk, 1, 0, 2 * i + 1, 0, -1, 0, -2 * i, 0, 0, 1, 2 * i + 1, 0, 0, -1, -2 * i, 0);
            if (i > 0) {
                desk.or();
            }
        }
    }

    private static void free() {
        RegionDesk desk = new RegionDesk();
        Check.state("free of none", () -> desk.free(0));
        Check.argument("no such column, none on the pile", () -> desk.free(2));
        Desks.lay(desk, 2, 1, 4, 0, -3, 1, 5, 1, 0, 1, 9, 0);
        Check.argument("no such column", () -> desk.free(2));
        Check.argument("no such column", () -> desk.free(-1));
        desk.keep(0);
        desk.load(0);
        desk.free(0);
        // 3 (2 x + y <= 4) + 2 (-3 x + y < 5): 5 y < 22, which implies y <= 9.
        Check.due("free of x", "[0 5 22 <]", Desks.told(desk));
        desk.drop();
        desk.load(0);
        desk.free(1);
        Check.due("free of y", "[]", Desks.told(desk));
        desk.drop();
        Desks.lay(desk, 1, 1, 4, 0, -1, 1, 0, 0, 0, -1, 0, 0);
        desk.keep(1);
        desk.load(1);
        desk.free(1);
        Check.due("a triangle free of y", "[-1 0 0 <=, 1 0 4 <=]", Desks.told(desk));
        desk.drop();
        desk.load(1);
        desk.free(0);
        Check.due("a triangle free of x", "[0 -1 0 <=, 0 1 2 <=]", Desks.told(desk));
        desk.drop();
        Desks.lay(desk, 1, 0, 4, 0, -1, 0, 0, 1);
        desk.free(0);
        Check.due("what holds by itself is no member", "[]", Desks.told(desk));
        Desks.lay(desk, 0, 1, 1, 0, 1, 0, 0, 0);
        Desks.lay(desk, 0, 1, 1, 0, -1, 0, -5, 0);
        desk.or();
        desk.free(0);
        Check.due("the same rows are one", "[0 1 1 <=]", Desks.told(desk));
        desk.drop();
        desk.load(3);
        desk.free(1);
        Check.due("free of no rows", "", Desks.told(desk));
    }

    private static void freeLimits() {
        RegionDesk desk = Desks.with(1, 10000, 0, 0, -1, 1, 0, 0);
        desk.free(0);
        Check.due("y <= 0, divided first", "[0 1 0 <=]", Desks.told(desk));
        desk.drop();
        Desks.lay(desk, 1, 9999, 1, 0, -1, 1, 0, 0);
        desk.free(0);
        Check.due("the highest number", "[0 10000 1 <=]", Desks.told(desk));
        desk.drop();
        Desks.lay(desk, 1, 10000, 1, 0, -1, 1, 0, 0);
        String before = Desks.told(desk);
        Check.limit("a number beyond 10000", () -> desk.free(0));
        Check.due("the region behind it", before, Desks.told(desk));
        Desks.lay(desk, 1, -10000, 1, 0, -1, -1, 0, 0);
        Check.limit("a number below -10000", () -> desk.free(0));
        desk.drop();
        Desks.lay(desk, 1, 1, 10000, 0, -1, 0, 1, 0);
        Check.limit("c beyond 10000", () -> desk.free(0));
        desk.drop();
        Desks.lay(desk, 1, 1, -10000, 0, -1, 0, -1, 0);
        Check.limit("c below -10000", () -> desk.free(0));
        desk.drop();
        // What the normal form does without may be far.
        Desks.lay(desk, 1, 1, 10000, 0, -1, 0, 1, 0, 0, 1, 3, 0);
        desk.free(0);
        Check.due("the far one is implied", "[0 1 3 <=]", Desks.told(desk));
        desk.drop();
        Desks.lay(desk, 9999, 10000, 1, 0, -9998, -9997, -10000, 0, 0, -1, 10000, 0, 0, 1, 10000, 0);
        Check.limit("sums near 2 * 10^8", () -> desk.free(0));
    }

    private static void keepAndLoad() {
        RegionDesk desk = new RegionDesk();
        Check.state("keep of none", () -> desk.keep(0));
        Check.argument("no such table, none on the pile", () -> desk.keep(4));
        Desks.lay(desk, 1, 0, 0, 0);
        Desks.lay(desk, 0, 1, 0, 0);
        Check.argument("keep, no such table", () -> desk.keep(4));
        Check.argument("keep, no such table", () -> desk.keep(-1));
        Check.argument("load, no such table", () -> desk.load(4));
        Check.argument("load, no such table", () -> desk.load(-1));
        desk.keep(3);
        Check.due("pile behind keep", 1, desk.pile());
        Check.due("the one below", "[1 0 0 <=]", Desks.told(desk));
        Check.due("load", 2, desk.load(3));
        Check.due("what was kept", "[0 1 0 <=]", Desks.told(desk));
        desk.not();
        Check.due("load", 3, desk.load(3));
        Check.due("what is kept stays", "[0 1 0 <=]", Desks.told(desk));
        desk.drop();
        desk.keep(3);
        desk.load(3);
        Check.due("in place of what was kept", "[0 -1 0 <]", Desks.told(desk));
        for (int i = 3; i <= 6; i++) {
            Check.due("load", i, desk.load(0));
        }
        Check.state("load of the seventh", () -> desk.load(0));
        Check.argument("load of the seventh, no such table", () -> desk.load(4));
        Check.due("pile behind it", 6, desk.pile());
    }

    private static void dropAndPile() {
        RegionDesk desk = new RegionDesk();
        Check.due("drop of none", false, desk.drop());
        Check.due("pile", 0, desk.pile());
        Desks.lay(desk, 1, 0, 0, 0);
        Desks.lay(desk, 0, 1, 0, 0);
        Check.due("pile", 2, desk.pile());
        Check.due("drop", true, desk.drop());
        Check.due("pile", 1, desk.pile());
        Check.due("what is left", "[1 0 0 <=]", Desks.told(desk));
        Check.due("drop", true, desk.drop());
        Check.due("drop of none", false, desk.drop());
        Check.due("pile", 0, desk.pile());
    }

    private static void rowsAndMembers() {
        RegionDesk desk = new RegionDesk();
        Check.state("rows of none", () -> desk.rows());
        Check.state("members of none", () -> desk.members(0));
        Check.state("members of none", () -> desk.members(-1));
        desk.load(0);
        Check.due("rows", 0, desk.rows());
        Check.index("members, no rows", () -> desk.members(0));
        Desks.lay(desk, 1, 0, 0, 0, 0, 1, 0, 0);
        Desks.lay(desk);
        desk.or();
        Check.due("rows", 2, desk.rows());
        Check.due("members", 2, desk.members(0));
        Check.due("members", 0, desk.members(1));
        Check.index("members, no such row", () -> desk.members(2));
        Check.index("members, no such row", () -> desk.members(-1));
        Check.index("members, no such row", () -> desk.members(Integer.MIN_VALUE));
        Check.index("members, no such row", () -> desk.members(Integer.MAX_VALUE));
    }

    private static void part() {
        RegionDesk desk = new RegionDesk();
        Check.state("part of none", () -> desk.part(0, 0, 0));
        Check.state("part of none", () -> desk.part(-1, 0, 9));
        Desks.lay(desk, 1, -2, 3, 1);
        Check.due("a", 1, desk.part(0, 0, 0));
        Check.due("b", -2, desk.part(0, 0, 1));
        Check.due("c", 3, desk.part(0, 0, 2));
        Check.due("strict", 1, desk.part(0, 0, 3));
        Check.argument("what 4", () -> desk.part(0, 0, 4));
        Check.argument("what -1", () -> desk.part(0, 0, -1));
        Check.index("no such member", () -> desk.part(0, 1, 0));
        Check.index("no such member", () -> desk.part(0, -1, 0));
        Check.index("no such row", () -> desk.part(1, 0, 0));
        Check.index("no such row", () -> desk.part(-1, 0, 0));
        Check.index("no such member, what 4", () -> desk.part(0, 1, 4));
        Check.index("no such row, what 4", () -> desk.part(1, 0, 4));
        Desks.lay(desk, 5, 7, 10000, 0);
        Check.due("not strict", 0, desk.part(0, 0, 3));
        Check.due("c", 10000, desk.part(0, 0, 2));
        Desks.lay(desk);
        Check.index("the row without members", () -> desk.part(0, 0, 0));
    }

    private static void holds() {
        RegionDesk desk = new RegionDesk();
        Check.state("holds of none", () -> desk.holds(0, 0, 1));
        Check.state("holds of none", () -> desk.holds(0, 0, 0));
        Desks.lay(desk, 3, 2, 1, 0, -1, 0, 5, 1);
        Check.argument("p", () -> desk.holds(10001, 0, 1));
        Check.argument("p", () -> desk.holds(-10001, 0, 1));
        Check.argument("q", () -> desk.holds(0, 10001, 1));
        Check.argument("q", () -> desk.holds(0, Integer.MIN_VALUE, 1));
        Check.argument("d 0", () -> desk.holds(0, 0, 0));
        Check.argument("d 1001", () -> desk.holds(0, 0, 1001));
        Check.argument("d -1", () -> desk.holds(0, 0, -1));
        Check.due("on the line", true, desk.holds(1, -1, 1));
        Check.due("on the line", true, desk.holds(1, 1, 5));
        Check.due("beyond it", false, desk.holds(201, 200, 1000));
        Check.due("on the strict one", false, desk.holds(-5, 0, 1));
        Check.due("before it", true, desk.holds(-4999, 0, 1000));
        Check.due("far", false, desk.holds(10000, 10000, 1));
        Desks.lay(desk, -3, -2, -1, 1);
        desk.or();
        Check.due("in the other row", true, desk.holds(10000, 10000, 1));
        Check.due("in no row", false, desk.holds(-10000, 10000, 1000));
        Check.due("far", true, desk.holds(10000, -10000, 1000));
        desk.load(0);
        Check.due("no rows", false, desk.holds(0, 0, 1));
        Desks.lay(desk);
        Check.due("all points", true, desk.holds(-10000, 10000, 1000));
        Desks.lay(desk, 10000, 10000, 10000, 0);
        Check.due("sums do not wrap", false, desk.holds(10000, 10000, 1));
        Check.due("sums do not wrap", true, desk.holds(-10000, -10000, 1));
    }

    private static void within() {
        RegionDesk desk = new RegionDesk();
        Check.state("within of none", () -> desk.within());
        Desks.lay(desk, 1, 0, 5, 0);
        Check.state("within of one", () -> desk.within());
        Desks.lay(desk, 1, 0, 5, 1);
        Check.due("the strict one in the other", true, desk.within());
        Check.due("pile behind it", 2, desk.pile());
        Check.due("the upper one behind it", "[1 0 5 <]", Desks.told(desk));
        Desks.lay(desk, 1, 0, 5, 0);
        Check.due("not the other way", false, desk.within());
        desk.drop();
        desk.load(0);
        Check.due("no points in any", true, desk.within());
        Desks.lay(desk, 1, 0, 0, 0);
        Check.due("points in none", false, desk.within());
        desk.drop();
        desk.load(0);
        Check.due("no points in none", true, desk.within());
        Desks.lay(desk, 1, 0, 1, 0);
        Desks.lay(desk, -1, 0, -1, 0);
        desk.or();
        Desks.lay(desk);
        Check.due("all in two halves", true, desk.within());
        desk.drop();
        desk.drop();
        Desks.lay(desk, 1, 0, 1, 1);
        Desks.lay(desk, -1, 0, -1, 1);
        desk.or();
        Desks.lay(desk);
        Check.due("all but a line", false, desk.within());
    }

    private static void withinLimits() {
        RegionDesk desk = new RegionDesk();
        layBoxes(desk, 3);
        desk.load(0);
        Check.limit("not of the lower one", () -> desk.within());
        Check.due("pile behind it", 2, desk.pile());
        Check.due("the upper one behind it", 0, desk.rows());
        desk.drop();
        Check.due("the lower one behind it", 3, desk.rows());
        desk.drop();
        layBoxes(desk, 1);
        Desks.lay(desk, polygon(0));
        Desks.lay(desk, 1, 0, 0, 0);
        Desks.lay(desk, 0, 1, 0, 0);
        desk.or();
        desk.or();
        Check.due("three rows times four", false, desk.within());
        desk.drop();
        desk.drop();
        Desks.lay(desk, polygon(0));
        Desks.lay(desk, polygon(20));
        Check.due("a polygon in another", false, desk.within());
        desk.drop();
        layStrips(desk, 3, true);
        Check.limit("and of both", () -> desk.within());
        Check.due("rows behind it", 3, desk.rows());
    }

    private static void leastIs(RegionDesk desk, int f, int g, int kind, long top, long base) {
        String call = "least(" + f + ", " + g + ")";
        Check.due(call, kind, desk.least(f, g));
        Check.due("value(0) behind " + call, top, desk.value(0));
        Check.due("value(1) behind " + call, base, desk.value(1));
    }

    private static void least() {
        RegionDesk desk = new RegionDesk();
        Check.state("least of none", () -> desk.least(0, 0));
        Check.state("least of none", () -> desk.least(101, 0));
        desk.load(0);
        leastIs(desk, 1, 1, 3, 0, 0);
        leastIs(desk, 0, 0, 3, 0, 0);
        Check.argument("f", () -> desk.least(101, 0));
        Check.argument("f", () -> desk.least(-101, 0));
        Check.argument("g", () -> desk.least(0, 101));
        Check.argument("g", () -> desk.least(0, -101));
        Desks.lay(desk);
        leastIs(desk, 1, 0, 2, 0, 0);
        leastIs(desk, 0, 0, 0, 0, 1);
        Desks.lay(desk, -3, -2, -7, 1);
        leastIs(desk, 3, 2, 1, 7, 1);
        leastIs(desk, 6, 4, 1, 14, 1);
        leastIs(desk, 1, 0, 2, 0, 0);
        leastIs(desk, -3, -2, 2, 0, 0);
        Desks.lay(desk, -6, -4, 7, 0);
        leastIs(desk, 3, 2, 0, -7, 2);
        Desks.lay(desk, -2, 0, -1, 0, 0, -3, -1, 0);
        leastIs(desk, 1, 1, 0, 5, 6);
        leastIs(desk, 100, 100, 0, 250, 3);
        leastIs(desk, 1, 0, 0, 1, 2);
        leastIs(desk, 0, 1, 0, 1, 3);
        leastIs(desk, 1, -1, 2, 0, 0);
        desk.drop();
        desk.drop();
        Desks.lay(desk, -2, 0, -1, 1, 0, -3, -1, 0);
        leastIs(desk, 1, 1, 1, 5, 6);
        leastIs(desk, 0, 1, 0, 1, 3);
        // At the corner (0, 0) a strict member that is else not seen keeps the value from being taken.
        Desks.lay(desk, -1, 0, 0, 0, 0, -1, 0, 0, -1, -1, 0, 1);
        leastIs(desk, 1, 2, 1, 0, 1);
        leastIs(desk, 1, 0, 0, 0, 1);
        desk.drop();
        Desks.lay(desk, 1, 0, 0, 0, 0, 1, 0, 0, 1, 1, 0, 1);
        leastIs(desk, -1, -2, 1, 0, 1);
        leastIs(desk, -2, -1, 1, 0, 1);
        leastIs(desk, 0, -1, 0, 0, 1);
    }

    private static void leastOfUnions() {
        RegionDesk desk = Desks.with(-1, 0, -3, 1);
        Desks.lay(desk, -1, 0, -3, 0, 0, -1, 0, 0);
        desk.or();
        leastIs(desk, 1, 0, 0, 3, 1);
        leastIs(desk, 0, 1, 2, 0, 0);
        Desks.lay(desk, -2, 0, -5, 1);
        desk.or();
        leastIs(desk, 2, 0, 1, 5, 1);
        Desks.lay(desk, 0, 1, 0, 0);
        desk.or();
        leastIs(desk, 1, 0, 2, 0, 0);
        Desks.lay(desk, -1, 0, 0, 0);
        Desks.lay(desk, -1, 0, 0, 1);
        desk.or();
        leastIs(desk, 1, 0, 0, 0, 1);
        leastIs(desk, 0, 0, 0, 0, 1);
    }

    private static void leastOfFarNumbers() {
        RegionDesk desk = Desks.with(-10000, 9999, -10000, 0, 9999, -10000, -9999, 0);
        leastIs(desk, 100, 100, 0, 1999900, 1);
        Desks.lay(desk, -10000, -9999, -9998, 0, 9999, -10000, -9995, 0);
        leastIs(desk, -1, 100, 0, 19991960205L, 199980001);
        Desks.lay(desk, -9998, -10000, -9998, 1, 9998, -9999, -9994, 0);
        leastIs(desk, -99, 100, 1, 1427502243, 14282143);
        Desks.lay(desk, -9999, -10000, -9999, 0, 9997, -10000, -9993, 0);
        leastIs(desk, -99, 100, 0, 19982061, 199960);
        desk.or();
        leastIs(desk, -99, 100, 0, 19982061, 199960);
    }

    private static void value() {
        RegionDesk desk = Desks.with(-2, 0, -1, 0);
        Check.argument("part 2", () -> desk.value(2));
        Check.argument("part -1", () -> desk.value(-1));
        leastIs(desk, 3, 0, 0, 3, 2);
        Check.argument("least", () -> desk.least(101, 0));
        Check.due("value behind a least that threw", 3, desk.value(0));
        desk.drop();
        Check.state("least", () -> desk.least(1, 0));
        Check.due("value behind a least that threw", 3, desk.value(0));
        Check.due("value behind a least that threw", 2, desk.value(1));
        desk.load(0);
        leastIs(desk, 3, 0, 3, 0, 0);
        Desks.lay(desk, -2, 0, 1, 1);
        leastIs(desk, 4, 0, 1, -2, 1);
        leastIs(desk, 0, 1, 2, 0, 0);
        leastIs(desk, 0, 0, 0, 0, 1);
        Check.argument("part 2", () -> desk.value(2));
    }
}
