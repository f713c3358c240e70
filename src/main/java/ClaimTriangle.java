/**
 * Puts payments of claims into triangles, by when the claims began and how long it took to pay
 * them, and tells from these in exact fractions what is still to be paid.
 */
public final class ClaimTriangle {
    private static final int MONTHS = 72;
    private static final int LINES = 2;
    private static final int MOST_ENTRIES = 60;
    private static final int MOST_AMOUNT = 9999;
    private static final int MOST_STEP = 12;
    private static final int MOST_SIZE = 6;

    private static final int ALL = 0;
    private static final int LATEST = 1;
    private static final int EXPECTED = 2;
    private static final int BLEND = 3;

    // In the order of their weight: of two states the greater one counts, so that what is
    // undefined stays so whatever else is too long.
    private static final int FINE = 0;
    private static final int TOO_LONG = 1;
    private static final int UNDEFINED = 2;

    private final Ledger ledger = new Ledger();
    private final Reckoner reckoner = new Reckoner();
    private final Triangle triangle = reckoner.triangle;
    private final Terms terms = reckoner.terms;

    public ClaimTriangle() {
    }

    public int pay(int line, int origin, int month, int amount)
            throws IllegalArgumentException, IllegalStateException {
        check(within(amount, -MOST_AMOUNT, MOST_AMOUNT));
        return enter(line, origin, month, amount, false);
    }

    public int estimate(int line, int origin, int month, int amount)
            throws IllegalArgumentException, IllegalStateException {
        check(within(amount, 0, MOST_AMOUNT));
        return enter(line, origin, month, amount, true);
    }

    public int strike(int entry) throws IllegalArgumentException, IllegalStateException {
        checkEntry(entry);
        checkLiving(entry);
        ledger.living[entry] = false;
        triangle.fill(ledger);
        return ledger.amounts[entry];
    }

    public void move(int entry, int origin, int month)
            throws IllegalArgumentException, IllegalStateException {
        checkEntry(entry);
        checkMonths(origin, month);
        checkLiving(entry);
        ledger.origins[entry] = origin;
        ledger.months[entry] = month;
        triangle.fill(ledger);
    }

    public void premium(int line, int origin, int amount) throws IllegalArgumentException {
        check(isLine(line) && within(origin, 0, MONTHS - 1) && within(amount, 0, MOST_AMOUNT));
        terms.premiums[line][origin] = amount;
    }

    public void ratio(int line, int above, int below) throws IllegalArgumentException {
        check(line == -1 || isLine(line));
        check(within(above, 0, MOST_AMOUNT) && within(below, 1, MOST_AMOUNT));
        if (line == -1) {
            terms.tail.become(above, below);
        } else {
            terms.ratioOf(line).become(above, below);
        }
    }

    public void build(int line, int step, boolean incurred, int size)
            throws IllegalArgumentException {
        check(isLine(line) && within(step, 1, MOST_STEP) && within(size, 1, MOST_SIZE));
        triangle.reshape(line, step, incurred, size);
        triangle.fill(ledger);
    }

    public int cell(int i, int j) throws IllegalArgumentException {
        check(isCell(i, j, triangle.shown()));
        return triangle.cells[i][j];
    }

    public int leave(int i, int j, boolean out) throws IllegalArgumentException {
        check(isCell(i, j, triangle.size));
        return triangle.mark(i, j, out);
    }

    public void latest(int r) throws IllegalArgumentException {
        check(within(r, 1, MOST_SIZE));
        terms.window = r;
    }

    public int hide(int k) throws IllegalArgumentException {
        check(within(k, 0, triangle.size - 1));
        triangle.hidden = k;
        return triangle.shown();
    }

    public long factor(int method, int j, boolean below)
            throws IllegalArgumentException, ArithmeticException, UnsupportedOperationException {
        check(isChain(method) && within(j, 0, triangle.shown() - 2));
        reckoner.prepare(method);
        reckoner.toLink(j);
        return partOfAnswer(below);
    }

    public long ultimate(int method, int i, boolean below)
            throws IllegalArgumentException, ArithmeticException, UnsupportedOperationException {
        check(isMethod(method) && isRow(i));
        reckoner.prepare(method);
        reckoner.toUltimate(method, i);
        return partOfAnswer(below);
    }

    public long reserve(int method, int i, boolean below)
            throws IllegalArgumentException, ArithmeticException, UnsupportedOperationException {
        check(isMethod(method) && isRow(i));
        reckoner.prepare(method);
        reckoner.toReserve(method, i);
        return partOfAnswer(below);
    }

    public long rounded(int method, int i)
            throws IllegalArgumentException, ArithmeticException, UnsupportedOperationException {
        check(isMethod(method) && isRow(i));
        reckoner.prepare(method);
        reckoner.toReserve(method, i);
        checkAnswer();
        return reckoner.answer.nearest();
    }

    public long total(int method, boolean below)
            throws IllegalArgumentException, ArithmeticException, UnsupportedOperationException {
        check(isMethod(method));
        reckoner.prepare(method);
        reckoner.toTotal(method);
        return partOfAnswer(below);
    }

    public int marks(int method) throws IllegalArgumentException {
        check(isMethod(method));
        reckoner.prepare(method);
        return reckoner.markRows(method);
    }

    public long deviation(int j, boolean below)
            throws IllegalArgumentException, ArithmeticException, UnsupportedOperationException {
        check(within(j, 0, triangle.shown() - 2));
        reckoner.prepare(ALL);
        reckoner.toDeviation(j);
        return partOfAnswer(below);
    }

    public long error(int method, int i, boolean below)
            throws IllegalArgumentException, ArithmeticException, UnsupportedOperationException {
        check(isChain(method) && within(i, triangle.hidden, triangle.shown() - 1));
        reckoner.prepare(method);
        reckoner.toError(i);
        return partOfAnswer(below);
    }

    public int diagonal(int d) throws IllegalArgumentException {
        check(within(d, 0, triangle.shown() - 1));
        return triangle.growth(d);
    }

    public int count(int which) throws IllegalArgumentException {
        switch (which) {
            case 0:
                return ledger.size;
            case 1:
                return ledger.countLiving();
            case 2:
                return triangle.shown();
            case 3:
                return triangle.hidden;
            case 4:
                return ledger.sumPayments(triangle.line);
            default:
                throw new IllegalArgumentException("there is no such count");
        }
    }

    private int enter(int line, int origin, int month, int amount, boolean estimated) {
        check(isLine(line));
        checkMonths(origin, month);
        if (ledger.size >= MOST_ENTRIES) {
            throw new IllegalStateException("there are 60 entries");
        }
        int entry = ledger.append(line, origin, month, amount, estimated);
        triangle.fill(ledger);
        return entry;
    }

    private long partOfAnswer(boolean below) {
        checkAnswer();
        return below ? reckoner.answer.below : reckoner.answer.above;
    }

    private void checkAnswer() {
        if (reckoner.answer.state == UNDEFINED) {
            throw new ArithmeticException("undefined");
        }
        if (reckoner.answer.state == TOO_LONG) {
            throw new UnsupportedOperationException("a step is too long");
        }
    }

    private void checkEntry(int entry) {
        check(within(entry, 0, ledger.size - 1));
    }

    private void checkLiving(int entry) {
        if (!ledger.living[entry]) {
            throw new IllegalStateException("the entry is struck");
        }
    }

    private boolean isRow(int i) {
        return within(i, 0, triangle.shown() - 1);
    }

    private static void checkMonths(int origin, int month) {
        check(within(origin, 0, MONTHS - 1) && within(month, origin, MONTHS - 1));
    }

    private static void check(boolean holds) {
        if (!holds) {
            throw new IllegalArgumentException("there is none such");
        }
    }

    private static boolean within(int value, int least, int greatest) {
        return value >= least && value <= greatest;
    }

    private static boolean isLine(int line) {
        return within(line, 0, LINES - 1);
    }

    // The sum of i and j could wrap round, so j is held against what i leaves of the size.
    private static boolean isCell(int i, int j, int size) {
        return within(i, 0, size - 1) && within(j, 0, size - 1 - i);
    }

    private static boolean isMethod(int method) {
        return within(method, ALL, BLEND);
    }

    private static boolean isChain(int method) {
        return method == ALL || method == LATEST;
    }

    /** A fraction that is worked on in place, so that no call makes new objects. */
    private static final class Fraction {
        private static final long LIMIT = 1L << 62;
        // Parts up to 2^62 need some ninety turns of Euclid's at most.
        private static final int EUCLID_TURNS = 128;

        private long above;
        private long below = 1;
        private int state = FINE;

        Fraction(long whole) {
            above = whole;
        }

        void becomeWhole(long whole) {
            above = whole;
            below = 1;
            state = FINE;
        }

        /** Takes cells, their sums and ratios alone: these are far from too long. */
        void become(long over, long under) {
            if (under == 0) {
                state = UNDEFINED;
                return;
            }
            long shared = divisor(over, under);
            long signed = under < 0 ? -shared : shared;
            above = over / signed;
            below = under / signed;
            state = FINE;
        }

        void copy(Fraction other) {
            above = other.above;
            below = other.below;
            state = other.state;
        }

        void times(Fraction other) {
            state = Math.max(state, other.state);
            if (state != FINE) {
                return;
            }
            long across = divisor(above, other.below);
            long back = divisor(other.above, below);
            long a = above / across;
            long b = below / back;
            long c = other.above / back;
            long d = other.below / across;
            if (!fits(a, c) || !fits(b, d)) {
                state = TOO_LONG;
                return;
            }
            above = a * c;
            below = b * d;
        }

        void plus(Fraction other) {
            state = Math.max(state, other.state);
            if (state != FINE) {
                return;
            }
            long shared = divisor(below, other.below);
            long widen = other.below / shared;
            long widenOther = below / shared;
            if (!fits(below, widen) || !fits(above, widen) || !fits(other.above, widenOther)) {
                state = TOO_LONG;
                return;
            }
            long first = above * widen;
            long second = other.above * widenOther;
            if (first > 0 ? second > LIMIT - first : second < -LIMIT - first) {
                state = TOO_LONG;
                return;
            }
            long multiple = below * widen;
            long inBoth = divisor(first + second, multiple);
            above = (first + second) / inBoth;
            below = multiple / inBoth;
        }

        void negate() {
            above = -above;
        }

        void invert() {
            if (state != FINE) {
                return;
            }
            if (above == 0) {
                state = UNDEFINED;
                return;
            }
            long over = above < 0 ? -below : below;
            below = Math.abs(above);
            above = over;
        }

        /** The rest is held against what it lacks, as twice a long part could wrap round. */
        long nearest() {
            long whole = Math.floorDiv(above, below);
            long rest = above - whole * below;
            return rest >= below - rest ? whole + 1 : whole;
        }

        private static boolean fits(long x, long y) {
            return y == 0 || Math.abs(x) <= LIMIT / Math.abs(y);
        }

        /** Never 0, so that it may always divide. */
        private static long divisor(long x, long y) {
            long greater = Math.abs(x);
            long lesser = Math.abs(y);
            for (int turn = 0; turn < EUCLID_TURNS && lesser != 0; turn++) {
                long rest = greater % lesser;
                greater = lesser;
                lesser = rest;
            }
            return Math.max(greater, 1L);
        }
    }

    /** The entries, struck ones too, as their numbers stay. */
    private static final class Ledger {
        private final int[] lines = new int[MOST_ENTRIES];
        private final int[] origins = new int[MOST_ENTRIES];
        private final int[] months = new int[MOST_ENTRIES];
        private final int[] amounts = new int[MOST_ENTRIES];
        private final boolean[] estimated = new boolean[MOST_ENTRIES];
        private final boolean[] living = new boolean[MOST_ENTRIES];
        private int size = 0;

        /** The caller has seen that there is room. */
        int append(int line, int origin, int month, int amount, boolean isEstimate) {
            int entry = size;
            lines[entry] = line;
            origins[entry] = origin;
            months[entry] = month;
            amounts[entry] = amount;
            estimated[entry] = isEstimate;
            living[entry] = true;
            size++;
            return entry;
        }

        boolean livesIn(int entry, int line) {
            return living[entry] && lines[entry] == line;
        }

        int countLiving() {
            int found = 0;
            for (int entry = 0; entry < size; entry++) {
                if (living[entry]) {
                    found++;
                }
            }
            return found;
        }

        int sumPayments(int line) {
            int sum = 0;
            for (int entry = 0; entry < size; entry++) {
                if (livesIn(entry, line) && !estimated[entry]) {
                    sum += amounts[entry];
                }
            }
            return sum;
        }

        /** The month from which on another estimate stands in its stead; a month too far if none. */
        int replacedIn(int entry) {
            int least = MONTHS;
            for (int other = 0; other < size; other++) {
                if (replaces(other, entry) && months[other] < least) {
                    least = months[other];
                }
            }
            return least;
        }

        private boolean replaces(int other, int entry) {
            if (!estimated[other] || !livesIn(other, lines[entry])) {
                return false;
            }
            if (origins[other] != origins[entry]) {
                return false;
            }
            return months[other] > months[entry]
                    || (months[other] == months[entry] && other > entry);
        }
    }

    /** The shape of the triangle and its cells; those that are hidden are kept up too. */
    private static final class Triangle {
        private final int[][] cells = new int[MOST_SIZE][MOST_SIZE];
        private final boolean[] out = new boolean[MOST_SIZE * MOST_SIZE];
        private int line = 0;
        private int step = MOST_STEP;
        private boolean incurred = false;
        private int size = 1;
        private int hidden = 0;

        int shown() {
            return size - hidden;
        }

        void reshape(int newLine, int newStep, boolean newIncurred, int newSize) {
            line = newLine;
            step = newStep;
            incurred = newIncurred;
            size = newSize;
            hidden = 0;
            for (int place = 0; place < out.length; place++) {
                out[place] = false;
            }
        }

        int mark(int i, int j, boolean isOut) {
            out[i * MOST_SIZE + j] = isOut;
            int found = 0;
            for (int place = 0; place < out.length; place++) {
                if (out[place]) {
                    found++;
                }
            }
            return found;
        }

        /** Whether factor j may take row i. */
        boolean takes(int i, int j) {
            return !out[i * MOST_SIZE + j] && !out[i * MOST_SIZE + j + 1];
        }

        int latestOf(int row) {
            return cells[row][shown() - 1 - row];
        }

        int growth(int d) {
            int sum = 0;
            for (int i = 0; i <= d; i++) {
                int j = d - i;
                sum += j == 0 ? cells[i][0] : cells[i][j] - cells[i][j - 1];
            }
            return sum;
        }

        void fill(Ledger ledger) {
            clear();
            for (int entry = 0; entry < ledger.size; entry++) {
                if (!ledger.livesIn(entry, line)) {
                    continue;
                }
                if (!ledger.estimated[entry]) {
                    add(ledger.origins[entry], ledger.months[entry], ledger.amounts[entry]);
                } else if (incurred) {
                    addEstimate(ledger, entry);
                }
            }
            accumulate();
        }

        private void clear() {
            for (int i = 0; i < MOST_SIZE; i++) {
                for (int j = 0; j < MOST_SIZE; j++) {
                    cells[i][j] = 0;
                }
            }
        }

        // An estimate counts only until the next one of its origin, and is taken off again there.
        private void addEstimate(Ledger ledger, int entry) {
            int origin = ledger.origins[entry];
            int amount = ledger.amounts[entry];
            add(origin, ledger.months[entry], amount);
            add(origin, ledger.replacedIn(entry), -amount);
        }

        private void add(int origin, int month, int amount) {
            int row = origin / step;
            int period = month / step;
            if (period < size) {
                cells[row][period - row] += amount;
            }
        }

        private void accumulate() {
            for (int i = 0; i < size; i++) {
                for (int j = 1; j < size - i; j++) {
                    cells[i][j] += cells[i][j - 1];
                }
            }
        }
    }

    /** What is agreed beside the entries: premiums, ratios, the tail and the window of LATEST. */
    private static final class Terms {
        private final int[][] premiums = new int[LINES][MONTHS];
        private final Fraction firstRatio = new Fraction(1);
        private final Fraction secondRatio = new Fraction(1);
        private final Fraction tail = new Fraction(1);
        private int window = 3;

        Fraction ratioOf(int line) {
            return line == 0 ? firstRatio : secondRatio;
        }

        int sumPremiums(int line, int step, int period) {
            int first = period * step;
            int sum = 0;
            for (int month = first; month < first + step && month < MONTHS; month++) {
                sum += premiums[line][month];
            }
            return sum;
        }
    }

    /** Works out factors, ultimates and what follows from them; each comes to stand in answer. */
    private static final class Reckoner {
        private final Triangle triangle = new Triangle();
        private final Terms terms = new Terms();
        private final Fraction[] links = new Fraction[MOST_SIZE - 1];
        private final Fraction answer = new Fraction(0);
        private final Fraction whole = new Fraction(0);
        private final Fraction expected = new Fraction(0);
        private final Fraction sum = new Fraction(0);

        Reckoner() {
            for (int j = 0; j < links.length; j++) {
                links[j] = new Fraction(1);
            }
        }

        /** Works out all factors once, as every row of a total needs them again. */
        void prepare(int method) {
            int window = method == LATEST ? terms.window : MOST_SIZE;
            for (int j = 0; j < triangle.shown() - 1; j++) {
                linkUp(j, window);
            }
        }

        private void linkUp(int j, int window) {
            long over = 0;
            long under = 0;
            int taken = 0;
            for (int i = triangle.shown() - 2 - j; i >= 0 && taken < window; i--) {
                if (triangle.takes(i, j)) {
                    over += triangle.cells[i][j + 1];
                    under += triangle.cells[i][j];
                    taken++;
                }
            }
            links[j].become(over, under);
        }

        void toLink(int j) {
            answer.copy(links[j]);
        }

        void toUltimate(int method, int row) {
            if (method == EXPECTED || method == BLEND) {
                expect(row);
            }
            if (method == EXPECTED) {
                answer.copy(expected);
                return;
            }
            chain(triangle.shown() - 1 - row, triangle.shown() - 2);
            answer.times(terms.tail);
            if (method == BLEND) {
                blend(row);
            } else {
                answer.times(asWhole(triangle.latestOf(row)));
            }
        }

        void toReserve(int method, int row) {
            toUltimate(method, row);
            answer.plus(asWhole(-triangle.latestOf(row)));
        }

        // A sum goes on past a row that is too long, as a later row may be undefined.
        void toTotal(int method) {
            sum.becomeWhole(0);
            for (int row = 0; row < triangle.shown(); row++) {
                toReserve(method, row);
                sum.plus(answer);
            }
            answer.copy(sum);
        }

        int markRows(int method) {
            int found = 0;
            for (int row = 0; row < triangle.shown(); row++) {
                toReserve(method, row);
                if (answer.state == UNDEFINED) {
                    found += 1;
                } else if (answer.state == TOO_LONG) {
                    found += 10;
                }
            }
            return found;
        }

        void toDeviation(int j) {
            int rows = 0;
            sum.becomeWhole(0);
            for (int i = 0; i < triangle.shown() - 1 - j; i++) {
                if (triangle.takes(i, j)) {
                    toSquare(i, j);
                    sum.plus(answer);
                    rows++;
                }
            }
            answer.become(1, Math.max(rows - 1, 0));
            answer.times(sum);
        }

        private void toSquare(int i, int j) {
            answer.copy(links[j]);
            answer.times(asWhole(triangle.cells[i][j]));
            answer.negate();
            answer.plus(asWhole(triangle.cells[i][j + 1]));
            answer.times(answer);
            whole.become(1, triangle.cells[i][j]);
            answer.times(whole);
        }

        /** Tells what the factors without the hidden periods make of a row, less what it became. */
        void toError(int row) {
            chain(triangle.shown() - 1 - row, triangle.size - 2 - row);
            answer.times(asWhole(triangle.latestOf(row)));
            answer.plus(asWhole(-triangle.cells[row][triangle.size - 1 - row]));
        }

        private void chain(int first, int last) {
            answer.becomeWhole(1);
            for (int j = first; j <= last; j++) {
                answer.times(links[j]);
            }
        }

        private void expect(int row) {
            expected.becomeWhole(terms.sumPremiums(triangle.line, triangle.step, row));
            expected.times(terms.ratioOf(triangle.line));
        }

        // The answer is the way before, and what is expected has been worked out.
        private void blend(int row) {
            answer.invert();
            answer.negate();
            answer.plus(asWhole(1));
            answer.times(expected);
            answer.plus(asWhole(triangle.latestOf(row)));
        }

        private Fraction asWhole(long value) {
            whole.becomeWhole(value);
            return whole;
        }
    }
}
