/**
 * A desk for regions of the plane: unions of rows of linear inequalities over the rationals.
 * All reckoning is exact, in longs; the bounds that keep the longs from wrapping stand beside it.
 * Everything that a call needs is made with the desk, so that calls make no objects.
 */
public final class RegionDesk {
    private static final int PILE_ROOM = 6;
    private static final int TABLE_COUNT = 4;
    private static final int COLUMN_COUNT = 2;
    private static final int ROW_LIMIT = 12;
    private static final int MEMBER_LIMIT = 12;
    private static final int NUMBER_LIMIT = 10000;
    private static final int DIVISOR_LIMIT = 1000;
    private static final int FORM_LIMIT = 100;

    private static final int INFIMUM_TAKEN = 0;
    private static final int INFIMUM_NOT_TAKEN = 1;
    private static final int NO_INFIMUM = 2;
    private static final int NO_POINTS = 3;

    private final Region[] stack = new Region[PILE_ROOM];
    private final Region[] tables = new Region[TABLE_COUNT];
    private final Draft collected = new Draft();
    private final Workshop workshop = new Workshop();
    private final Infimum infimum = new Infimum();
    private int height;
    private int collectedCount;

    public RegionDesk() {
        for (int i = 0; i < PILE_ROOM; i++) {
            stack[i] = new Region();
        }
        for (int i = 0; i < TABLE_COUNT; i++) {
            tables[i] = new Region();
        }
    }

    public int member(int a, int b, int c, boolean strict)
            throws IllegalArgumentException, IllegalStateException {
        if (exceeds(a, NUMBER_LIMIT) || exceeds(b, NUMBER_LIMIT) || exceeds(c, NUMBER_LIMIT)) {
            throw new IllegalArgumentException("a number is not -10000 .. 10000");
        }
        if (a == 0 && b == 0) {
            throw new IllegalArgumentException("a and b are 0");
        }
        if (collectedCount >= MEMBER_LIMIT) {
            throw new IllegalStateException("twelve members are collected");
        }
        collected.put(a, b, c, strict);
        collectedCount++;
        return collectedCount;
    }

    public int row() throws IllegalStateException {
        requireRoom();
        Region fresh = stack[height];
        fresh.clear();
        // What was collected keeps all limits, so the answer need not be looked at.
        fresh.admit(collected);
        collected.clear();
        collectedCount = 0;
        height++;
        return height;
    }

    public void and() throws IllegalStateException, UnsupportedOperationException {
        requireHeight(2);
        requireLimitsKept(workshop.intersect(stack[height - 2], stack[height - 1]));
        height--;
        stack[height - 1].copy(workshop.result());
    }

    public void or() throws IllegalStateException, UnsupportedOperationException {
        requireHeight(2);
        requireLimitsKept(workshop.unite(stack[height - 2], stack[height - 1]));
        height--;
        stack[height - 1].copy(workshop.result());
    }

    public void not() throws IllegalStateException, UnsupportedOperationException {
        requireHeight(1);
        requireLimitsKept(workshop.complement(stack[height - 1]));
        stack[height - 1].copy(workshop.result());
    }

    public void free(int column)
            throws IllegalArgumentException, IllegalStateException, UnsupportedOperationException {
        if (column < 0 || column >= COLUMN_COUNT) {
            throw new IllegalArgumentException("no such column");
        }
        requireHeight(1);
        requireLimitsKept(workshop.project(stack[height - 1], column));
        stack[height - 1].copy(workshop.result());
    }

    public void keep(int table) throws IllegalArgumentException, IllegalStateException {
        requireTable(table);
        requireHeight(1);
        height--;
        tables[table].copy(stack[height]);
    }

    public int load(int table) throws IllegalArgumentException, IllegalStateException {
        requireTable(table);
        requireRoom();
        stack[height].copy(tables[table]);
        height++;
        return height;
    }

    public boolean drop() {
        if (height == 0) {
            return false;
        }
        height--;
        return true;
    }

    public int pile() {
        return height;
    }

    public int rows() throws IllegalStateException {
        requireHeight(1);
        return stack[height - 1].rowCount();
    }

    public int members(int r) throws IllegalStateException, IndexOutOfBoundsException {
        requireHeight(1);
        requireRow(r);
        return stack[height - 1].memberCount(r);
    }

    public int part(int r, int i, int what)
            throws IllegalStateException, IndexOutOfBoundsException, IllegalArgumentException {
        requireHeight(1);
        requireRow(r);
        Region top = stack[height - 1];
        if (i < 0 || i >= top.memberCount(r)) {
            throw new IndexOutOfBoundsException("no such member");
        }
        switch (what) {
            case 0:
                return top.x(r, i);
            case 1:
                return top.y(r, i);
            case 2:
                return top.bound(r, i);
            case 3:
                return top.isStrict(r, i) ? 1 : 0;
            default:
                throw new IllegalArgumentException("no such what");
        }
    }

    public boolean holds(int p, int q, int d) throws IllegalStateException, IllegalArgumentException {
        requireHeight(1);
        if (exceeds(p, NUMBER_LIMIT) || exceeds(q, NUMBER_LIMIT)) {
            throw new IllegalArgumentException("p or q is not -10000 .. 10000");
        }
        if (d < 1 || d > DIVISOR_LIMIT) {
            throw new IllegalArgumentException("d is not 1 .. 1000");
        }
        return stack[height - 1].hasPoint(p, q, d);
    }

    public boolean within() throws IllegalStateException, UnsupportedOperationException {
        requireHeight(2);
        requireLimitsKept(workshop.complement(stack[height - 2]));
        requireLimitsKept(workshop.intersect(stack[height - 1], workshop.setAside()));
        return workshop.result().rowCount() == 0;
    }

    public int least(int f, int g) throws IllegalStateException, IllegalArgumentException {
        requireHeight(1);
        if (exceeds(f, FORM_LIMIT) || exceeds(g, FORM_LIMIT)) {
            throw new IllegalArgumentException("f or g is not -100 .. 100");
        }
        return infimum.seek(stack[height - 1], f, g);
    }

    public long value(int part) throws IllegalArgumentException {
        if (part != 0 && part != 1) {
            throw new IllegalArgumentException("no such part");
        }
        return part == 0 ? infimum.numerator() : infimum.denominator();
    }

    private void requireRoom() {
        if (height >= PILE_ROOM) {
            throw new IllegalStateException("six regions lie on the pile");
        }
    }

    private void requireHeight(int least) {
        if (height < least) {
            throw new IllegalStateException("too few regions lie on the pile");
        }
    }

    private void requireRow(int r) {
        if (r < 0 || r >= stack[height - 1].rowCount()) {
            throw new IndexOutOfBoundsException("no such row");
        }
    }

    private static void requireTable(int table) {
        if (table < 0 || table >= TABLE_COUNT) {
            throw new IllegalArgumentException("no such table");
        }
    }

    private static void requireLimitsKept(boolean kept) {
        if (!kept) {
            throw new UnsupportedOperationException("a limit is passed");
        }
    }

    private static boolean exceeds(long number, long limit) {
        return number < -limit || number > limit;
    }

    /** The greatest common divisor, never below 0; the arguments lie far from the ends of long. */
    private static long commonDivisor(long first, long second) {
        long a = Math.abs(first);
        long b = Math.abs(second);
        // Euclid's steps for longs are fewer than a hundred.
        for (int step = 0; step < 100 && b != 0; step++) {
            long rest = a % b;
            a = b;
            b = rest;
        }
        return a;
    }

    /**
     * The values t of one unknown that satisfy some demands n t <= m (or n t < m). Each end is
     * held as a bound from above: end 0 of t, end 1 of -t; base 0 says that there is none.
     */
    private static final class Span {
        private final long[] tops = new long[2];
        private final long[] bases = new long[2];
        private final boolean[] stricts = new boolean[2];

        void reset() {
            bases[0] = 0;
            bases[1] = 0;
        }

        /**
         * One more demand n t <= m: whether a value is left. While n is not 0, n and m are at
         * most 2 * 10^8 from 0, so the products of two of them do not wrap.
         */
        boolean narrow(long n, long m, boolean strict) {
            if (n == 0) {
                return m > 0 || (m == 0 && !strict);
            }
            int end = n > 0 ? 0 : 1;
            long base = n > 0 ? n : -n;
            long fresh = m * bases[end];
            long present = tops[end] * base;
            if (bases[end] == 0 || fresh < present || (fresh == present && strict)) {
                tops[end] = m;
                bases[end] = base;
                stricts[end] = strict;
            }
            if (bases[0] == 0 || bases[1] == 0) {
                return true;
            }
            long gap = tops[0] * bases[1] + tops[1] * bases[0];
            return gap > 0 || (gap == 0 && !stricts[0] && !stricts[1]);
        }
    }

    /**
     * The members of one row in the making: normal, in the order of the normal form, of those
     * with the same a and b the one that says most.
     */
    private static final class Draft {
        /** FREE makes the most: six members with a number above 0 times six with one below. */
        private static final int ROOM = 36;

        private final long[] as = new long[ROOM];
        private final long[] bs = new long[ROOM];
        private final long[] cs = new long[ROOM];
        private final boolean[] stricts = new boolean[ROOM];
        private final Span span = new Span();
        private int size;

        void clear() {
            size = 0;
        }

        int memberCount() {
            return size;
        }

        long x(int i) {
            return as[i];
        }

        long y(int i) {
            return bs[i];
        }

        long bound(int i) {
            return cs[i];
        }

        boolean isStrict(int i) {
            return stricts[i];
        }

        void put(long a, long b, long c, boolean strict) {
            // Only a sum that FREE makes of members of a row with points is so: it holds.
            if (a == 0 && b == 0) {
                return;
            }
            long divisor = commonDivisor(commonDivisor(a, b), c);
            if (divisor > 1) {
                insert(a / divisor, b / divisor, c / divisor, strict);
            } else {
                insert(a, b, c, strict);
            }
        }

        private void insert(long a, long b, long c, boolean strict) {
            int at = 0;
            while (at < size && (as[at] < a || (as[at] == a && bs[at] < b))) {
                at++;
            }
            if (at < size && as[at] == a && bs[at] == b) {
                strengthen(at, c, strict);
                return;
            }
            // Never so: no operation makes more than ROOM members.
            if (size >= ROOM) {
                return;
            }
            for (int i = size; i > at; i--) {
                move(i - 1, i);
            }
            size++;
            as[at] = a;
            bs[at] = b;
            cs[at] = c;
            stricts[at] = strict;
        }

        private void strengthen(int at, long c, boolean strict) {
            if (c < cs[at]) {
                cs[at] = c;
                stricts[at] = strict;
            } else if (c == cs[at] && strict) {
                stricts[at] = true;
            }
        }

        private void move(int from, int to) {
            as[to] = as[from];
            bs[to] = bs[from];
            cs[to] = cs[from];
            stricts[to] = stricts[from];
        }

        private void remove(int at) {
            size--;
            for (int i = at; i < size; i++) {
                move(i + 1, i);
            }
        }

        private void flip(int at) {
            as[at] = -as[at];
            bs[at] = -bs[at];
            cs[at] = -cs[at];
            stricts[at] = !stricts[at];
        }

        /**
         * Whether a point satisfies all members. Column y is eliminated, which is exact over the
         * rationals. Numbers are at most 10^4 from 0, or, behind FREE, 2 * 10^8 with one column 0
         * throughout: then sums with n = 0 are at most 8 * 10^16 and the others as Span wants.
         */
        boolean hasPoints() {
            span.reset();
            for (int i = 0; i < size; i++) {
                long u = bs[i];
                if (u == 0 && !span.narrow(as[i], cs[i], stricts[i])) {
                    return false;
                }
                for (int j = 0; u > 0 && j < size; j++) {
                    long l = -bs[j];
                    if (l > 0 && !span.narrow(l * as[i] + u * as[j], l * cs[i] + u * cs[j],
                            stricts[i] || stricts[j])) {
                        return false;
                    }
                }
            }
            return true;
        }

        /** The others imply a member just if they have no point together with its contrary. */
        void dropImplied() {
            int at = 0;
            int tries = size;
            for (int i = 0; i < tries; i++) {
                flip(at);
                boolean needed = hasPoints();
                flip(at);
                if (needed) {
                    at++;
                } else {
                    remove(at);
                }
            }
        }

        boolean keepsLimits() {
            for (int i = 0; i < size; i++) {
                if (exceeds(as[i], NUMBER_LIMIT) || exceeds(bs[i], NUMBER_LIMIT)
                        || exceeds(cs[i], NUMBER_LIMIT)) {
                    return false;
                }
            }
            return size <= MEMBER_LIMIT;
        }
    }

    /** A list of rows in normal form, no two the same, within the limits. */
    private static final class Region {
        private static final int MEMBER_WIDTH = 4;
        private static final int ROW_WIDTH = MEMBER_LIMIT * MEMBER_WIDTH;

        private final int[] sizes = new int[ROW_LIMIT];
        private final int[] numbers = new int[ROW_LIMIT * ROW_WIDTH];
        private int count;

        void clear() {
            count = 0;
        }

        void copy(Region other) {
            count = other.count;
            for (int r = 0; r < count; r++) {
                sizes[r] = other.sizes[r];
                System.arraycopy(other.numbers, r * ROW_WIDTH, numbers, r * ROW_WIDTH,
                        sizes[r] * MEMBER_WIDTH);
            }
        }

        int rowCount() {
            return count;
        }

        int memberCount(int r) {
            return sizes[r];
        }

        int x(int r, int i) {
            return numbers[r * ROW_WIDTH + i * MEMBER_WIDTH];
        }

        int y(int r, int i) {
            return numbers[r * ROW_WIDTH + i * MEMBER_WIDTH + 1];
        }

        int bound(int r, int i) {
            return numbers[r * ROW_WIDTH + i * MEMBER_WIDTH + 2];
        }

        boolean isStrict(int r, int i) {
            return numbers[r * ROW_WIDTH + i * MEMBER_WIDTH + 3] == 1;
        }

        /** ADDING: brings the draft into its normal form; whether the limits are kept. */
        boolean admit(Draft draft) {
            if (!draft.hasPoints()) {
                return true;
            }
            draft.dropImplied();
            if (!draft.keepsLimits()) {
                return false;
            }
            if (contains(draft)) {
                return true;
            }
            if (count >= ROW_LIMIT) {
                return false;
            }
            append(draft);
            return true;
        }

        private boolean contains(Draft draft) {
            for (int r = 0; r < count; r++) {
                if (isSame(r, draft)) {
                    return true;
                }
            }
            return false;
        }

        private boolean isSame(int r, Draft draft) {
            if (sizes[r] != draft.memberCount()) {
                return false;
            }
            for (int i = 0; i < sizes[r]; i++) {
                if (x(r, i) != draft.x(i) || y(r, i) != draft.y(i)
                        || bound(r, i) != draft.bound(i) || isStrict(r, i) != draft.isStrict(i)) {
                    return false;
                }
            }
            return true;
        }

        private void append(Draft draft) {
            sizes[count] = draft.memberCount();
            for (int i = 0; i < sizes[count]; i++) {
                int at = count * ROW_WIDTH + i * MEMBER_WIDTH;
                numbers[at] = (int) draft.x(i);
                numbers[at + 1] = (int) draft.y(i);
                numbers[at + 2] = (int) draft.bound(i);
                numbers[at + 3] = draft.isStrict(i) ? 1 : 0;
            }
            count++;
        }

        /** The first few members of a row go into a draft. */
        void pour(int r, int few, Draft draft) {
            for (int i = 0; i < few; i++) {
                draft.put(x(r, i), y(r, i), bound(r, i), isStrict(r, i));
            }
        }

        void pourContrary(int r, int i, Draft draft) {
            draft.put(-x(r, i), -y(r, i), -bound(r, i), !isStrict(r, i));
        }

        boolean hasPoint(int p, int q, int d) {
            for (int r = 0; r < count; r++) {
                if (rowHasPoint(r, p, q, d)) {
                    return true;
                }
            }
            return false;
        }

        private boolean rowHasPoint(int r, int p, int q, int d) {
            for (int i = 0; i < sizes[r]; i++) {
                int left = x(r, i) * p + y(r, i) * q;
                int right = bound(r, i) * d;
                if (left > right || (left == right && isStrict(r, i))) {
                    return false;
                }
            }
            return true;
        }
    }

    /**
     * Makes regions of regions, each in a place of its own, so that nothing changes where a
     * limit is passed: each operation answers whether the limits are kept.
     */
    private static final class Workshop {
        private final Draft draft = new Draft();
        private final Region pieces = new Region();
        private Region result = new Region();
        private Region previous = new Region();

        Region result() {
            return result;
        }

        boolean intersect(Region p, Region q) {
            result.clear();
            for (int i = 0; i < p.rowCount(); i++) {
                for (int j = 0; j < q.rowCount(); j++) {
                    draft.clear();
                    p.pour(i, p.memberCount(i), draft);
                    q.pour(j, q.memberCount(j), draft);
                    if (!result.admit(draft)) {
                        return false;
                    }
                }
            }
            return true;
        }

        boolean unite(Region p, Region q) {
            result.copy(p);
            for (int i = 0; i < q.rowCount(); i++) {
                draft.clear();
                q.pour(i, q.memberCount(i), draft);
                if (!result.admit(draft)) {
                    return false;
                }
            }
            return true;
        }

        boolean complement(Region p) {
            result.clear();
            draft.clear();
            result.admit(draft);
            for (int r = 0; r < p.rowCount(); r++) {
                cut(p, r);
                if (!intersect(setAside(), pieces)) {
                    return false;
                }
            }
            return true;
        }

        /** The result stays as it is while another one is made. */
        Region setAside() {
            Region other = previous;
            previous = result;
            result = other;
            return previous;
        }

        /** The PARTS of a row; they keep the limits, as it does. */
        private void cut(Region p, int r) {
            pieces.clear();
            for (int i = 0; i < p.memberCount(r); i++) {
                draft.clear();
                p.pourContrary(r, i, draft);
                p.pour(r, i, draft);
                pieces.admit(draft);
            }
        }

        boolean project(Region p, int column) {
            result.clear();
            for (int r = 0; r < p.rowCount(); r++) {
                draft.clear();
                for (int i = 0; i < p.memberCount(r); i++) {
                    eliminate(p, r, i, column);
                }
                if (!result.admit(draft)) {
                    return false;
                }
            }
            return true;
        }

        /** What member i gives: itself, if it is without the column, or its sums with others. */
        private void eliminate(Region p, int r, int i, int column) {
            long u = entry(p, r, i, column);
            if (u == 0) {
                draft.put(p.x(r, i), p.y(r, i), p.bound(r, i), p.isStrict(r, i));
            }
            if (u <= 0) {
                return;
            }
            for (int j = 0; j < p.memberCount(r); j++) {
                long l = -entry(p, r, j, column);
                if (l > 0) {
                    draft.put(l * p.x(r, i) + u * p.x(r, j), l * p.y(r, i) + u * p.y(r, j),
                            l * p.bound(r, i) + u * p.bound(r, j),
                            p.isStrict(r, i) || p.isStrict(r, j));
                }
            }
        }

        private static long entry(Region p, int r, int i, int column) {
            return column == 0 ? p.x(r, i) : p.y(r, i);
        }
    }

    /**
     * The infimum of a form f x + g y over a region, as top / base; base 0 says that there is
     * none. A row's infimum is the greatest of the lower bounds that one member, or two, give.
     * Tops are at most 4 * 10^10 from 0 and bases 2 * 10^8: the products are below 2^63.
     */
    private static final class Infimum {
        private long top;
        private long base;
        private boolean taken;
        private long rowTop;
        private long rowBase;
        private boolean rowTaken;

        long numerator() {
            return top;
        }

        long denominator() {
            return base;
        }

        int seek(Region region, int f, int g) {
            forget();
            if (region.rowCount() == 0) {
                return NO_POINTS;
            }
            if (f == 0 && g == 0) {
                base = 1;
                return INFIMUM_TAKEN;
            }
            for (int r = 0; r < region.rowCount(); r++) {
                seekInRow(region, r, f, g);
                if (rowBase == 0) {
                    forget();
                    return NO_INFIMUM;
                }
                lowerToRow();
            }
            reduce();
            return taken ? INFIMUM_TAKEN : INFIMUM_NOT_TAKEN;
        }

        private void forget() {
            top = 0;
            base = 0;
        }

        private void lowerToRow() {
            long fresh = rowTop * base;
            long present = top * rowBase;
            if (base == 0 || fresh < present) {
                top = rowTop;
                base = rowBase;
                taken = rowTaken;
            } else if (fresh == present && rowTaken) {
                taken = true;
            }
        }

        private void reduce() {
            long divisor = commonDivisor(top, base);
            if (divisor > 1) {
                top /= divisor;
                base /= divisor;
            }
        }

        /**
         * Seen along the line where the form is the same, a member turns to one side (above 0),
         * to the other, or to none; those of opposite sides bound the form where they meet.
         */
        private void seekInRow(Region region, int r, int f, int g) {
            rowTop = 0;
            rowBase = 0;
            for (int i = 0; i < region.memberCount(r); i++) {
                int side = side(region, r, i, f, g);
                if (side == 0) {
                    boundByOne(region, r, i, f, g);
                }
                for (int j = 0; side > 0 && j < region.memberCount(r); j++) {
                    if (side(region, r, j, f, g) < 0) {
                        boundByTwo(region, r, i, j, f, g);
                    }
                }
            }
        }

        private static int side(Region region, int r, int i, int f, int g) {
            return region.y(r, i) * f - region.x(r, i) * g;
        }

        private void boundByOne(Region region, int r, int i, int f, int g) {
            long along = (long) region.x(r, i) * f + (long) region.y(r, i) * g;
            if (along < 0) {
                long square = (long) f * f + (long) g * g;
                raiseRow(-region.bound(r, i) * square, -along, !region.isStrict(r, i));
            }
        }

        private void boundByTwo(Region region, int r, int i, int j, int f, int g) {
            long a = region.x(r, i);
            long b = region.y(r, i);
            long c = region.bound(r, i);
            long turn = a * region.y(r, j) - b * region.x(r, j);
            // Not above 0: they bound the form from above alone, or not at all.
            if (turn > 0) {
                long x = c * region.y(r, j) - b * region.bound(r, j);
                long y = a * region.bound(r, j) - c * region.x(r, j);
                boolean closed = !region.isStrict(r, i) && !region.isStrict(r, j);
                raiseRow(f * x + g * y, turn, closed);
            }
        }

        private void raiseRow(long boundTop, long boundBase, boolean closed) {
            long fresh = boundTop * rowBase;
            long present = rowTop * boundBase;
            if (rowBase == 0 || fresh > present) {
                rowTop = boundTop;
                rowBase = boundBase;
                rowTaken = closed;
            } else if (fresh == present && !closed) {
                rowTaken = false;
            }
        }
    }
}
