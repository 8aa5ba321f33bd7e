/**
 * What the tests do with a desk again and again: laying rows, and reading what is there. A test
 * that extends it calls these by their bare names.
 */
abstract class Desks {

    /** Collects members: four numbers for each, the last one 1 for a strict one. */
    static void collect(RegionDesk desk, int... numbers) {
        for (int i = 0; i < numbers.length; i += 4) {
            desk.member(numbers[i], numbers[i + 1], numbers[i + 2], numbers[i + 3] == 1);
        }
    }

    /** A new row on the pile. */
    static void lay(RegionDesk desk, int... numbers) {
        collect(desk, numbers);
        desk.row();
    }

    static RegionDesk with(int... numbers) {
        RegionDesk desk = new RegionDesk();
        lay(desk, numbers);
        return desk;
    }

    /** The members of a row, as collect() takes them. */
    static int[] row(int... numbers) {
        return numbers;
    }

    static int[][] region(int[]... rows) {
        return rows;
    }

    /** A new region on the pile, of these rows in their order. */
    static void layAll(RegionDesk desk, int[]... rows) {
        if (rows.length == 0) {
            layNothing(desk);
        }
        for (int i = 0; i < rows.length; i++) {
            lay(desk, rows[i]);
            if (i > 0) {
                desk.or();
            }
        }
    }

    static RegionDesk withAll(int[]... rows) {
        RegionDesk desk = new RegionDesk();
        layAll(desk, rows);
        return desk;
    }

    /** The region without rows, on the pile: of two members that no point satisfies. */
    private static void layNothing(RegionDesk desk) {
        lay(desk, 1, 0, 0, 1, -1, 0, 0, 1);
    }

    /** The uppermost region: a row in each pair of brackets, members as "a b c <" or "a b c <=". */
    static String told(RegionDesk desk) {
        StringBuilder text = new StringBuilder();
        for (int r = 0; r < desk.rows(); r++) {
            text.append('[');
            for (int i = 0; i < desk.members(r); i++) {
                text.append(i == 0 ? "" : ", ").append(desk.part(r, i, 0)).append(' ')
                        .append(desk.part(r, i, 1)).append(' ').append(desk.part(r, i, 2))
                        .append(desk.part(r, i, 3) == 1 ? " <" : " <=");
            }
            text.append(']');
        }
        return text.toString();
    }

    /** What AND of two regions is, on a new desk. */
    static String and(int[][] p, int[][] q) {
        RegionDesk desk = withAll(p);
        layAll(desk, q);
        desk.and();
        return told(desk);
    }

    static String or(int[][] p, int[][] q) {
        RegionDesk desk = withAll(p);
        layAll(desk, q);
        desk.or();
        return told(desk);
    }

    static String not(int[]... rows) {
        RegionDesk desk = withAll(rows);
        desk.not();
        return told(desk);
    }

    static String free(int column, int[]... rows) {
        RegionDesk desk = withAll(rows);
        desk.free(column);
        return told(desk);
    }

    /** What the row of these members is, alone on a new desk. */
    static String form(int... numbers) {
        return told(with(numbers));
    }

    /** A desk with something in each table and a value that is told, and nothing on the pile. */
    static RegionDesk furnished() {
        RegionDesk desk = with(1, 2, 3, 0);
        desk.keep(0);
        lay(desk, -2, 0, -1, 0);
        lay(desk, 0, 5, 7, 1);
        desk.or();
        desk.keep(1);
        lay(desk);
        desk.keep(2);
        lay(desk, 0, -7, 5, 1);
        desk.least(0, 3);
        desk.keep(3);
        return desk;
    }

    /** All that a desk holds; the desk is used up by it. */
    static String wholly(RegionDesk desk) {
        StringBuilder text = new StringBuilder("value ").append(desk.value(0)).append(" / ")
                .append(desk.value(1)).append("; pile of ").append(desk.pile());
        while (desk.pile() > 0) {
            text.append(", ").append(told(desk));
            desk.drop();
        }
        text.append("; one more collected: ").append(collectOneMore(desk));
        desk.row();
        text.append(", ").append(told(desk)).append("; tables");
        for (int table = 0; table < 4; table++) {
            desk.drop();
            desk.load(table);
            text.append(", ").append(told(desk));
        }
        return text.toString();
    }

    /** How many are collected then, 13 if that is refused. */
    private static int collectOneMore(RegionDesk desk) {
        try {
            return desk.member(0, 1, 10000, false);
        } catch (IllegalStateException e) {
            return 13;
        }
    }
}
