import java.math.BigInteger;
import java.util.ArrayList;
import java.util.List;

/**
 * The document's terms written down as they stand, with big integers and without any thrift, to
 * hold the program against. Whether something is undefined is asked before it is worked out.
 */
final class ReferenceModel {
    private static final BigInteger LIMIT = BigInteger.ONE.shiftLeft(62);

    /** A fraction in lowest terms. */
    record Ratio(BigInteger above, BigInteger below) {
        static Ratio of(long above, long below) {
            return lowest(BigInteger.valueOf(above), BigInteger.valueOf(below));
        }

        static Ratio whole(long value) {
            return of(value, 1);
        }

        static Ratio lowest(BigInteger above, BigInteger below) {
            BigInteger shared = above.gcd(below);
            BigInteger sign = BigInteger.valueOf(below.signum());
            return new Ratio(above.divide(shared).multiply(sign), below.divide(shared).multiply(sign));
        }

        Ratio times(Ratio other) {
            BigInteger first = above.gcd(other.below);
            BigInteger second = other.above.gcd(below);
            BigInteger over = above.divide(first).multiply(other.above.divide(second));
            BigInteger under = below.divide(second).multiply(other.below.divide(first));
            return new Ratio(short62(over), short62(under));
        }

        Ratio plus(Ratio other) {
            BigInteger multiple = short62(below.multiply(other.below).divide(below.gcd(other.below)));
            BigInteger first = short62(above.multiply(multiple.divide(below)));
            BigInteger second = short62(other.above.multiply(multiple.divide(other.below)));
            return lowest(short62(first.add(second)), multiple);
        }

        Ratio less() {
            return new Ratio(above.negate(), below);
        }

        Ratio inverse() {
            return lowest(below, above);
        }

        boolean isZero() {
            return above.signum() == 0;
        }

        private static BigInteger short62(BigInteger part) {
            if (part.abs().compareTo(LIMIT) > 0) {
                throw new UnsupportedOperationException();
            }
            return part;
        }
    }

    private static final class Entry {
        private int line;
        private int origin;
        private int month;
        private int amount;
        private boolean estimate;
        private boolean lives = true;
    }

    private final List<Entry> entries = new ArrayList<>();
    private final int[][] premiums = new int[2][72];
    private final Ratio[] ratios = {Ratio.whole(1), Ratio.whole(1)};
    private Ratio tail = Ratio.whole(1);
    private int line = 0;
    private int step = 12;
    private boolean incurred = false;
    private int size = 1;
    private int hidden = 0;
    private int window = 3;
    private boolean[][] out = new boolean[6][6];

    int pay(int line, int origin, int month, int amount) {
        return enter(line, origin, month, amount, -9999, false);
    }

    int estimate(int line, int origin, int month, int amount) {
        return enter(line, origin, month, amount, 0, true);
    }

    private int enter(int line, int origin, int month, int amount, int least, boolean estimate) {
        argument(line == 0 || line == 1);
        argument(isMonth(origin) && isMonth(month) && month >= origin);
        argument(amount >= least && amount <= 9999);
        state(entries.size() < 60);
        Entry entry = new Entry();
        entry.line = line;
        entry.origin = origin;
        entry.month = month;
        entry.amount = amount;
        entry.estimate = estimate;
        entries.add(entry);
        return entries.size() - 1;
    }

    int strike(int entry) {
        argument(entry >= 0 && entry < entries.size());
        state(entries.get(entry).lives);
        entries.get(entry).lives = false;
        return entries.get(entry).amount;
    }

    void move(int entry, int origin, int month) {
        argument(entry >= 0 && entry < entries.size());
        argument(isMonth(origin) && isMonth(month) && month >= origin);
        state(entries.get(entry).lives);
        entries.get(entry).origin = origin;
        entries.get(entry).month = month;
    }

    void premium(int line, int origin, int amount) {
        argument(line == 0 || line == 1);
        argument(isMonth(origin) && amount >= 0 && amount <= 9999);
        premiums[line][origin] = amount;
    }

    void ratio(int line, int above, int below) {
        argument(line >= -1 && line <= 1);
        argument(above >= 0 && above <= 9999 && below >= 1 && below <= 9999);
        if (line < 0) {
            tail = Ratio.of(above, below);
        } else {
            ratios[line] = Ratio.of(above, below);
        }
    }

    void build(int line, int step, boolean incurred, int size) {
        argument(line == 0 || line == 1);
        argument(step >= 1 && step <= 12 && size >= 1 && size <= 6);
        this.line = line;
        this.step = step;
        this.incurred = incurred;
        this.size = size;
        hidden = 0;
        out = new boolean[6][6];
    }

    int cell(int i, int j) {
        argument(i >= 0 && j >= 0 && (long) i + j < n());
        return at(i, j);
    }

    int leave(int i, int j, boolean isOut) {
        argument(i >= 0 && j >= 0 && (long) i + j < size);
        out[i][j] = isOut;
        int left = 0;
        for (boolean[] row : out) {
            for (boolean place : row) {
                left += place ? 1 : 0;
            }
        }
        return left;
    }

    void latest(int r) {
        argument(r >= 1 && r <= 6);
        window = r;
    }

    int hide(int k) {
        argument(k >= 0 && k <= size - 1);
        hidden = k;
        return n();
    }

    Ratio factor(int method, int j) {
        argument((method == 0 || method == 1) && j >= 0 && j <= n() - 2);
        defined(!factorUndefined(method, j));
        return link(method, j);
    }

    Ratio ultimate(int method, int i) {
        argument(method >= 0 && method <= 3 && i >= 0 && i < n());
        defined(!rowUndefined(method, i));
        return ultimateOf(method, i);
    }

    Ratio reserve(int method, int i) {
        argument(method >= 0 && method <= 3 && i >= 0 && i < n());
        defined(!rowUndefined(method, i));
        return ultimateOf(method, i).plus(Ratio.whole(latestCell(i)).less());
    }

    long rounded(int method, int i) {
        Ratio reserve = reserve(method, i);
        BigInteger two = BigInteger.TWO;
        BigInteger over = reserve.above.multiply(two).add(reserve.below);
        BigInteger under = reserve.below.multiply(two);
        BigInteger[] parts = over.divideAndRemainder(under);
        return parts[1].signum() < 0 ? parts[0].longValueExact() - 1 : parts[0].longValueExact();
    }

    Ratio total(int method) {
        argument(method >= 0 && method <= 3);
        for (int i = 0; i < n(); i++) {
            defined(!rowUndefined(method, i));
        }
        Ratio sum = Ratio.whole(0);
        for (int i = 0; i < n(); i++) {
            sum = sum.plus(reserve(method, i));
        }
        return sum;
    }

    int marks(int method) {
        argument(method >= 0 && method <= 3);
        int found = 0;
        for (int i = 0; i < n(); i++) {
            try {
                reserve(method, i);
            } catch (ArithmeticException undefined) {
                found += 1;
            } catch (UnsupportedOperationException tooLong) {
                found += 10;
            }
        }
        return found;
    }

    Ratio deviation(int j) {
        argument(j >= 0 && j <= n() - 2);
        List<Integer> rows = rows(0, j);
        defined(!factorUndefined(0, j) && rows.size() >= 2);
        for (int i : rows) {
            defined(at(i, j) != 0);
        }
        Ratio sum = Ratio.whole(0);
        for (int i : rows) {
            Ratio x = Ratio.whole(at(i, j + 1)).plus(link(0, j).times(Ratio.whole(at(i, j))).less());
            sum = sum.plus(x.times(x).times(Ratio.of(1, at(i, j))));
        }
        return sum.times(Ratio.of(1, rows.size() - 1));
    }

    Ratio error(int method, int i) {
        argument((method == 0 || method == 1) && i >= hidden && i <= size - hidden - 1);
        for (int j = size - hidden - 1 - i; j <= size - 2 - i; j++) {
            defined(!factorUndefined(method, j));
        }
        Ratio product = Ratio.whole(1);
        for (int j = size - hidden - 1 - i; j <= size - 2 - i; j++) {
            product = product.times(link(method, j));
        }
        return Ratio.whole(latestCell(i)).times(product).plus(Ratio.whole(at(i, size - 1 - i)).less());
    }

    int diagonal(int d) {
        argument(d >= 0 && d <= n() - 1);
        int sum = 0;
        for (int i = 0; i <= d; i++) {
            sum += at(i, d - i) - (d == i ? 0 : at(i, d - i - 1));
        }
        return sum;
    }

    int count(int which) {
        argument(which >= 0 && which <= 4);
        int living = 0;
        int paid = 0;
        for (Entry entry : entries) {
            living += entry.lives ? 1 : 0;
            paid += entry.lives && !entry.estimate && entry.line == line ? entry.amount : 0;
        }
        return new int[] {entries.size(), living, n(), hidden, paid}[which];
    }

    private int n() {
        return size - hidden;
    }

    private int latestCell(int i) {
        return at(i, n() - 1 - i);
    }

    private int at(int i, int j) {
        int before = (i + j + 1) * step;
        int sum = 0;
        for (int origin = i * step; origin < i * step + step; origin++) {
            Entry chosen = null;
            for (Entry entry : entries) {
                if (!entry.lives || entry.line != line || entry.origin != origin || entry.month >= before) {
                    continue;
                }
                if (!entry.estimate) {
                    sum += entry.amount;
                } else if (chosen == null || entry.month >= chosen.month) {
                    chosen = entry;
                }
            }
            sum += incurred && chosen != null ? chosen.amount : 0;
        }
        return sum;
    }

    private List<Integer> rows(int method, int j) {
        List<Integer> rows = new ArrayList<>();
        for (int i = 0; i + j + 1 < n(); i++) {
            if (!out[i][j] && !out[i][j + 1]) {
                rows.add(i);
            }
        }
        int first = method == 1 ? Math.max(0, rows.size() - window) : 0;
        return rows.subList(first, rows.size());
    }

    private int columnSum(int method, int j, int column) {
        int sum = 0;
        for (int i : rows(method, j)) {
            sum += at(i, column);
        }
        return sum;
    }

    private boolean factorUndefined(int method, int j) {
        return columnSum(method, j, j) == 0;
    }

    private Ratio link(int method, int j) {
        return Ratio.of(columnSum(method, j, j + 1), columnSum(method, j, j));
    }

    private boolean rowUndefined(int method, int i) {
        if (method == 2) {
            return false;
        }
        for (int j = n() - 1 - i; j <= n() - 2; j++) {
            if (factorUndefined(method == 1 ? 1 : 0, j)) {
                return true;
            }
        }
        return method == 3 && wayKnownZero(i);
    }

    private boolean wayKnownZero(int i) {
        try {
            return way(0, i).isZero();
        } catch (UnsupportedOperationException tooLong) {
            return false;
        }
    }

    private Ratio way(int method, int i) {
        Ratio way = Ratio.whole(1);
        for (int j = n() - 1 - i; j <= n() - 2; j++) {
            way = way.times(link(method, j));
        }
        return way.times(tail);
    }

    private Ratio ultimateOf(int method, int i) {
        if (method < 2) {
            return Ratio.whole(latestCell(i)).times(way(method, i));
        }
        int premium = 0;
        for (int origin = i * step; origin < i * step + step; origin++) {
            premium += premiums[line][origin];
        }
        Ratio expected = Ratio.whole(premium).times(ratios[line]);
        if (method == 2) {
            return expected;
        }
        Ratio open = Ratio.whole(1).plus(way(0, i).inverse().less());
        return open.times(expected).plus(Ratio.whole(latestCell(i)));
    }

    private static boolean isMonth(int month) {
        return month >= 0 && month <= 71;
    }

    private static void argument(boolean holds) {
        if (!holds) {
            throw new IllegalArgumentException();
        }
    }

    private static void state(boolean holds) {
        if (!holds) {
            throw new IllegalStateException();
        }
    }

    private static void defined(boolean holds) {
        if (!holds) {
            throw new ArithmeticException();
        }
    }
}
