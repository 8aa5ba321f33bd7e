import java.math.BigInteger;
import java.util.ArrayList;
import java.util.Arrays;
import java.util.Comparator;
import java.util.List;

/**
 * The document's words once more, as plainly as can be: lists, big integers and general
 * elimination, for comparison with the program.
 */
final class Model {
    /** A sum of the numbers times the unknowns, at most (or below) the last number. */
    record Half(List<BigInteger> numbers, boolean strict) {
        BigInteger at(int i) {
            return numbers.get(i);
        }

        BigInteger bound() {
            return numbers.get(numbers.size() - 1);
        }
    }

    private static final BigInteger LIMIT = BigInteger.valueOf(10000);
    private static final Comparator<Half> ORDER = Comparator.comparing((Half h) -> h.at(0))
            .thenComparing(h -> h.at(1)).thenComparing(h -> h.at(2))
            .thenComparing(Half::strict);

    private final List<List<List<Half>>> pile = new ArrayList<>();
    private final List<List<List<Half>>> tables = new ArrayList<>();
    private final List<Half> collected = new ArrayList<>();
    private BigInteger numerator = BigInteger.ZERO;
    private BigInteger denominator = BigInteger.ZERO;

    Model() {
        for (int i = 0; i < 4; i++) {
            tables.add(new ArrayList<>());
        }
    }

    int member(int a, int b, int c, boolean strict) {
        if (Math.abs((long) a) > 10000 || Math.abs((long) b) > 10000 || Math.abs((long) c) > 10000) {
            throw new IllegalArgumentException();
        }
        if (a == 0 && b == 0) {
            throw new IllegalArgumentException();
        }
        if (collected.size() == 12) {
            throw new IllegalStateException();
        }
        collected.add(half(strict, a, b, c));
        return collected.size();
    }

    int row() {
        needRoom();
        List<List<Half>> region = new ArrayList<>();
        adding(region, collected);
        pile.add(region);
        collected.clear();
        return pile.size();
    }

    void and() {
        need(2);
        replace(2, andOf(lower(), upper()));
    }

    void or() {
        need(2);
        List<List<Half>> region = new ArrayList<>(lower());
        for (List<Half> q : upper()) {
            adding(region, q);
        }
        replace(2, region);
    }

    void not() {
        need(1);
        replace(1, notOf(upper()));
    }

    void free(int column) {
        if (column != 0 && column != 1) {
            throw new IllegalArgumentException();
        }
        need(1);
        List<List<Half>> region = new ArrayList<>();
        for (List<Half> row : upper()) {
            adding(region, eliminate(row, column));
        }
        replace(1, region);
    }

    void keep(int table) {
        needTable(table);
        need(1);
        tables.set(table, pile.remove(pile.size() - 1));
    }

    int load(int table) {
        needTable(table);
        needRoom();
        pile.add(tables.get(table));
        return pile.size();
    }

    boolean drop() {
        if (pile.isEmpty()) {
            return false;
        }
        pile.remove(pile.size() - 1);
        return true;
    }

    int pile() {
        return pile.size();
    }

    int rows() {
        need(1);
        return upper().size();
    }

    int members(int r) {
        need(1);
        if (r < 0 || r >= upper().size()) {
            throw new IndexOutOfBoundsException();
        }
        return upper().get(r).size();
    }

    int part(int r, int i, int what) {
        int size = members(r);
        if (i < 0 || i >= size) {
            throw new IndexOutOfBoundsException();
        }
        if (what < 0 || what > 3) {
            throw new IllegalArgumentException();
        }
        Half half = upper().get(r).get(i);
        return what == 3 ? (half.strict() ? 1 : 0) : half.at(what).intValueExact();
    }

    boolean holds(int p, int q, int d) {
        need(1);
        if (Math.abs((long) p) > 10000 || Math.abs((long) q) > 10000 || d < 1 || d > 1000) {
            throw new IllegalArgumentException();
        }
        for (List<Half> row : upper()) {
            if (row.stream().allMatch(h -> holds(h, p, q, d))) {
                return true;
            }
        }
        return false;
    }

    boolean within() {
        need(2);
        return andOf(upper(), notOf(lower())).isEmpty();
    }

    int least(int f, int g) {
        need(1);
        if (Math.abs((long) f) > 100 || Math.abs((long) g) > 100) {
            throw new IllegalArgumentException();
        }
        numerator = BigInteger.ZERO;
        denominator = BigInteger.ZERO;
        if (upper().isEmpty()) {
            return 3;
        }
        Half best = null;
        for (List<Half> row : upper()) {
            Half bound = leastOf(row, f, g);
            if (bound == null) {
                return 2;
            }
            if (best == null || compare(bound, best) < 0) {
                best = bound;
            }
        }
        BigInteger divisor = best.at(0).gcd(best.at(1));
        numerator = best.at(0).divide(divisor);
        denominator = best.at(1).divide(divisor);
        return best.strict() ? 1 : 0;
    }

    long value(int part) {
        if (part != 0 && part != 1) {
            throw new IllegalArgumentException();
        }
        return (part == 0 ? numerator : denominator).longValueExact();
    }

    private List<List<Half>> upper() {
        return pile.get(pile.size() - 1);
    }

    private List<List<Half>> lower() {
        return pile.get(pile.size() - 2);
    }

    private void need(int count) {
        if (pile.size() < count) {
            throw new IllegalStateException();
        }
    }

    private void needRoom() {
        if (pile.size() == 6) {
            throw new IllegalStateException();
        }
    }

    private static void needTable(int table) {
        if (table < 0 || table > 3) {
            throw new IllegalArgumentException();
        }
    }

    private void replace(int gone, List<List<Half>> region) {
        for (int i = 0; i < gone; i++) {
            pile.remove(pile.size() - 1);
        }
        pile.add(region);
    }

    private static Half half(boolean strict, long... numbers) {
        return new Half(Arrays.stream(numbers).mapToObj(BigInteger::valueOf).toList(), strict);
    }

    private static boolean holds(Half h, int p, int q, int d) {
        BigInteger left = h.at(0).multiply(BigInteger.valueOf(p))
                .add(h.at(1).multiply(BigInteger.valueOf(q)));
        int sign = left.compareTo(h.bound().multiply(BigInteger.valueOf(d)));
        return sign < 0 || (sign == 0 && !h.strict());
    }

    private static List<List<Half>> andOf(List<List<Half>> p, List<List<Half>> q) {
        List<List<Half>> region = new ArrayList<>();
        for (List<Half> first : p) {
            for (List<Half> second : q) {
                List<Half> both = new ArrayList<>(first);
                both.addAll(second);
                adding(region, both);
            }
        }
        return region;
    }

    private static List<List<Half>> notOf(List<List<Half>> p) {
        List<List<Half>> region = new ArrayList<>();
        adding(region, List.of());
        for (List<Half> row : p) {
            List<List<Half>> parts = new ArrayList<>();
            for (int i = 0; i < row.size(); i++) {
                List<Half> part = new ArrayList<>(row.subList(0, i));
                part.add(contrary(row.get(i)));
                adding(parts, part);
            }
            region = andOf(region, parts);
        }
        return region;
    }

    private static void adding(List<List<Half>> region, List<Half> row) {
        if (!feasible(row, 2)) {
            return;
        }
        List<Half> normal = normalForm(row);
        boolean far = normal.stream().flatMap(h -> h.numbers().stream())
                .anyMatch(n -> n.abs().compareTo(LIMIT) > 0);
        if (far || normal.size() > 12) {
            throw new UnsupportedOperationException();
        }
        if (!region.contains(normal)) {
            if (region.size() == 12) {
                throw new UnsupportedOperationException();
            }
            region.add(normal);
        }
    }

    private static List<Half> normalForm(List<Half> row) {
        List<Half> sorted = new ArrayList<>();
        for (Half h : row) {
            if (h.at(0).signum() != 0 || h.at(1).signum() != 0) {
                sorted.add(normal(h));
            }
        }
        sorted.sort(ORDER);
        List<Half> strongest = new ArrayList<>();
        for (Half h : sorted) {
            if (sorted.stream().noneMatch(o -> saysMore(o, h)) && !strongest.contains(h)) {
                strongest.add(h);
            }
        }
        List<Half> left = new ArrayList<>(strongest);
        for (Half h : strongest) {
            List<Half> others = new ArrayList<>(left);
            others.remove(h);
            if (implies(others, h)) {
                left = others;
            }
        }
        return left;
    }

    private static boolean saysMore(Half o, Half h) {
        if (!o.at(0).equals(h.at(0)) || !o.at(1).equals(h.at(1))) {
            return false;
        }
        int sign = o.bound().compareTo(h.bound());
        return sign < 0 || (sign == 0 && o.strict() && !h.strict());
    }

    private static Half normal(Half h) {
        BigInteger divisor = h.at(0).gcd(h.at(1)).gcd(h.at(2));
        return new Half(h.numbers().stream().map(n -> n.divide(divisor)).toList(), h.strict());
    }

    private static Half contrary(Half h) {
        return new Half(h.numbers().stream().map(BigInteger::negate).toList(), !h.strict());
    }

    private static boolean implies(List<Half> others, Half h) {
        List<Half> all = new ArrayList<>(others);
        all.add(contrary(h));
        return !feasible(all, 2);
    }

    private static boolean feasible(List<Half> halves, int unknowns) {
        List<Half> left = halves;
        for (int i = 0; i < unknowns; i++) {
            left = eliminate(left, i);
        }
        return left.stream().allMatch(h -> h.bound().signum() > 0
                || (h.bound().signum() == 0 && !h.strict()));
    }

    private static List<Half> eliminate(List<Half> halves, int column) {
        List<Half> left = new ArrayList<>();
        for (Half first : halves) {
            if (first.at(column).signum() == 0) {
                left.add(first);
            }
            for (Half second : halves) {
                if (first.at(column).signum() > 0 && second.at(column).signum() < 0) {
                    left.add(sum(first, second.at(column).negate(), second, first.at(column)));
                }
            }
        }
        return left;
    }

    private static Half sum(Half first, BigInteger l, Half second, BigInteger u) {
        List<BigInteger> numbers = new ArrayList<>();
        for (int i = 0; i < first.numbers().size(); i++) {
            numbers.add(first.at(i).multiply(l).add(second.at(i).multiply(u)));
        }
        return new Half(numbers, first.strict() || second.strict());
    }

    /** The greatest lower bound, as numerator and denominator, strict if it is not taken. */
    private static Half leastOf(List<Half> row, int f, int g) {
        List<Half> system = new ArrayList<>();
        for (Half h : row) {
            system.add(new Half(List.of(h.at(0), h.at(1), BigInteger.ZERO, h.at(2)), h.strict()));
        }
        system.add(half(false, f, g, -1, 0));
        system.add(half(false, -f, -g, 1, 0));
        Half best = null;
        for (Half h : eliminate(eliminate(system, 0), 1)) {
            if (h.at(2).signum() < 0) {
                Half bound = new Half(List.of(h.bound().negate(), h.at(2).negate()), h.strict());
                if (best == null || compare(bound, best) > 0) {
                    best = bound;
                }
            }
        }
        return best;
    }

    /** Of two lower ends: at the same value the one that is not taken lies higher. */
    private static int compare(Half first, Half second) {
        int sign = first.at(0).multiply(second.at(1))
                .compareTo(second.at(0).multiply(first.at(1)));
        return sign != 0 ? sign : Boolean.compare(first.strict(), second.strict());
    }
}
