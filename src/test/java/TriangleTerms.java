/** 'Terms', from the months to what is hidden. */
final class TriangleTerms {
    private static final int ALL = Samples.ALL;
    private static final int LATEST = Samples.LATEST;
    private static final int EXPECTED = Samples.EXPECTED;

    private TriangleTerms() {
    }

    static void check(Sentences terms) {
        terms.holds("MONTHS are 0 .. 71.", TriangleTerms::months);
        terms.holds("LINES are 0 and 1.", TriangleTerms::lines);
        terms.holds("ENTRIES have numbers 0, 1, .. as they are made, at most 60;", TriangleTerms::numbers);
        terms.holds("each has a line, an ORIGIN (a month), a month that is not before its origin, an AMOUNT,",
                TriangleTerms::monthNotBeforeOrigin);
        terms.holds("and is a PAYMENT (amount -9999 .. 9999)", TriangleTerms::payments);
        terms.holds("or an ESTIMATE (0 .. 9999);", TriangleTerms::estimates);
        terms.holds("it LIVES until it is struck.", TriangleTerms::living);
        terms.holds("A line has a PREMIUM for each origin, 0 .. 9999 (at first 0),", TriangleTerms::premiums);
        terms.holds("and a RATIO, a fraction (at first 1).", TriangleTerms::ratios);
        terms.holds("THE TRIANGLE is of a line, with periods of STEP months (period k are the months k step"
                + " to k step + step - 1), is PAID or INCURRED,", TriangleTerms::periods);
        terms.holds("and has a SIZE n of 1 to 6 periods;", TriangleTerms::sizes);
        terms.holds("at first of line 0, step 12, paid, n 1.", TriangleTerms::firstTriangle);
        terms.holds("Its CELLS are i, j with i + j below n.", TriangleTerms::cellsBelowSize);
        terms.holds("Cell i, j is the sum of the living payments of the line whose origin is in period i and"
                + " whose month is before (i + j + 1) step;", TriangleTerms::paidCell);
        terms.holds("if it is incurred, together with, for each origin in period i, the living estimate of"
                + " that with the greatest month before (i + j + 1) step", TriangleTerms::incurredCell);
        terms.holds("(of several the one with the greatest number).", TriangleTerms::severalEstimates);
        terms.holds("It follows the entries as they are now.", TriangleTerms::followsEntries);
        terms.holds("A cell may be LEFT OUT, of factors alone.", TriangleTerms::leftOut);
        terms.holds("HIDDEN are the k latest periods (at first 0):", TriangleTerms::hidden);
        terms.holds("what follows is of n - k, in the stead of n, but for ERROR.", TriangleTerms::insteadOfSize);
    }

    private static void months() {
        Checks.answers("a payment from the first month to the last", 0, () -> new ClaimTriangle().pay(0, 0, 71, 1));
        Checks.answers("an estimate in the last month", 0, () -> new ClaimTriangle().estimate(0, 71, 71, 1));
        for (int month : Edges.outside(0, 71)) {
            Checks.refuses("a payment in month " + month, Checks.BAD, Samples::busy, x -> x.pay(0, 0, month, 1));
            Checks.refuses("an origin and month " + month, Checks.BAD, Samples::busy,
                    x -> x.estimate(0, month, month, 1));
            Checks.refuses("a premium of month " + month, Checks.BAD, Samples::busy, x -> x.premium(0, month, 1));
            Checks.refuses("a move to month " + month, Checks.BAD, Samples::busy, x -> x.move(0, 0, month));
        }
        ClaimTriangle x = new ClaimTriangle();
        x.premium(0, 0, 5);
        x.premium(0, 71, 7);
        x.pay(0, 0, 0, 11);
        x.move(0, 71, 71);
        x.build(0, 12, false, 6);
        Checks.answers("a payment moved to the last month", 11, () -> x.cell(5, 0));
        Checks.answers("a premium of the first month", 5, () -> x.ultimate(EXPECTED, 0, false));
        Checks.answers("a premium of the last month", 7, () -> x.ultimate(EXPECTED, 5, false));
    }

    private static void lines() {
        ClaimTriangle x = new ClaimTriangle();
        x.pay(0, 0, 0, 3);
        x.pay(1, 0, 0, 5);
        Checks.answers("line 0 at first", 3, () -> x.cell(0, 0));
        x.build(1, 12, false, 1);
        Checks.answers("line 1", 5, () -> x.cell(0, 0));
        for (int line : Edges.outside(0, 1)) {
            Checks.refuses("a payment of line " + line, Checks.BAD, Samples::busy, y -> y.pay(line, 0, 0, 1));
            Checks.refuses("a triangle of line " + line, Checks.BAD, Samples::busy, y -> y.build(line, 12, false, 1));
        }
    }

    private static void numbers() {
        ClaimTriangle x = new ClaimTriangle();
        for (int entry = 0; entry < 60; entry++) {
            int line = entry % 2;
            int due = entry;
            if (entry % 3 == 0) {
                Checks.answers("an estimate's number", due, () -> x.estimate(line, 0, 0, 1));
            } else {
                Checks.answers("a payment's number", due, () -> x.pay(line, 0, 0, 1));
            }
            Checks.fails("one that is refused has none", Checks.BAD, () -> x.pay(line, 0, 0, 10000));
        }
        Checks.fails("a payment too many", Checks.STATE, () -> x.pay(0, 0, 0, 1));
        Checks.fails("an estimate too many", Checks.STATE, () -> x.estimate(1, 0, 0, 1));
        Checks.answers("sixty", 60, () -> x.count(0));
        Checks.answers("the last one can be struck", 1, () -> x.strike(59));
        Checks.fails("there is none behind it", Checks.BAD, () -> x.strike(60));
    }

    private static void monthNotBeforeOrigin() {
        for (int origin : new int[] {0, 1, 35, 70, 71}) {
            Checks.answers("in the month of its origin", 0, () -> new ClaimTriangle().pay(0, origin, origin, 1));
            Checks.refuses("a month before its origin", Checks.BAD, Samples::busy,
                    x -> x.pay(0, origin, origin - 1, 1));
            Checks.refuses("an estimate a month before", Checks.BAD, Samples::busy,
                    x -> x.estimate(0, origin, origin - 1, 1));
            Checks.refuses("moved a month before", Checks.BAD, Samples::busy, x -> x.move(0, origin, origin - 1));
        }
        Checks.refuses("the last origin, the first month", Checks.BAD, Samples::busy, x -> x.pay(1, 71, 0, 1));
        ClaimTriangle x = new ClaimTriangle();
        x.pay(0, 0, 71, 5);
        x.move(0, 71, 71);
        Checks.answers("a move may make them alike", 5, () -> x.count(4));
    }

    private static void payments() {
        for (int amount : Edges.inside(-9999, 9999)) {
            ClaimTriangle x = new ClaimTriangle();
            x.pay(0, 0, 0, amount);
            Checks.answers("a payment of " + amount, amount, () -> x.cell(0, 0));
        }
        ClaimTriangle none = new ClaimTriangle();
        Checks.answers("a payment of 0", 0, () -> none.pay(0, 0, 0, 0));
        Checks.answers("it lives", 1, () -> none.count(1));
        for (int amount : Edges.outside(-9999, 9999)) {
            Checks.refuses("a payment of " + amount, Checks.BAD, Samples::busy, x -> x.pay(0, 0, 0, amount));
        }
    }

    private static void estimates() {
        for (int amount : Edges.inside(0, 9999)) {
            ClaimTriangle x = new ClaimTriangle();
            x.build(0, 12, true, 1);
            x.estimate(0, 0, 0, amount);
            Checks.answers("an estimate of " + amount, amount, () -> x.cell(0, 0));
        }
        for (int amount : Edges.outside(0, 9999)) {
            Checks.refuses("an estimate of " + amount, Checks.BAD, Samples::busy, x -> x.estimate(0, 0, 0, amount));
        }
    }

    private static void living() {
        ClaimTriangle x = Samples.full();
        Checks.answers("all live", 60, () -> x.count(1));
        for (int entry = 0; entry < 60; entry++) {
            x.strike(entry);
        }
        Checks.answers("none lives", 0, () -> x.count(1));
        Checks.answers("none counts", 0, () -> x.cell(0, 0));
        Checks.answers("all are still entries", 60, () -> x.count(0));
        Checks.fails("none comes to live again", Checks.STATE, () -> x.strike(0));
        Checks.failsDoing("nor by a move", Checks.STATE, () -> x.move(59, 0, 0));
    }

    private static void premiums() {
        ClaimTriangle x = new ClaimTriangle();
        Checks.parts("at first", 0, 1, below -> x.ultimate(EXPECTED, 0, below));
        for (int month = 0; month < 12; month++) {
            x.premium(0, month, 9999);
        }
        Checks.parts("the greatest of a year", 12 * 9999, 1, below -> x.ultimate(EXPECTED, 0, below));
        x.premium(0, 5, 0);
        Checks.parts("one of 0", 11 * 9999, 1, below -> x.ultimate(EXPECTED, 0, below));
        x.build(1, 12, false, 1);
        Checks.parts("the other line's", 0, 1, below -> x.ultimate(EXPECTED, 0, below));
        for (int amount : Edges.outside(0, 9999)) {
            Checks.refuses("a premium of " + amount, Checks.BAD, Samples::busy, y -> y.premium(0, 0, amount));
        }
    }

    private static void ratios() {
        for (int line = 0; line < 2; line++) {
            ClaimTriangle x = new ClaimTriangle();
            x.build(line, 12, false, 1);
            x.premium(line, 0, 9999);
            Checks.parts("at first", 9999, 1, below -> x.ultimate(EXPECTED, 0, below));
            x.ratio(line, 1, 9999);
            Checks.parts("the least but 0", 1, 1, below -> x.ultimate(EXPECTED, 0, below));
            x.ratio(line, 9999, 1);
            Checks.parts("the greatest", 9999 * 9999, 1, below -> x.ultimate(EXPECTED, 0, below));
            x.ratio(line, 0, 9999);
            Checks.parts("0", 0, 1, below -> x.ultimate(EXPECTED, 0, below));
        }
    }

    /** A payment in the first and one in the last month of each period, for every step. */
    private static void periods() {
        for (int step = 1; step <= 12; step++) {
            ClaimTriangle x = new ClaimTriangle();
            x.build(0, step, false, 6);
            for (int period = 0; period < 6; period++) {
                int first = period * step;
                x.pay(0, first, first, 1 << (2 * period));
                x.pay(0, first + step - 1, first + step - 1, 2 << (2 * period));
            }
            x.build(0, step, true, 6);
            for (int period = 0; period < 6; period++) {
                int row = period;
                Checks.answers("step " + step + ", row " + row, 3L << (2 * row), () -> x.cell(row, 0));
                Checks.answers("step " + step + ", to the end of it", 3L << (2 * row), () -> x.cell(row, 5 - row));
            }
        }
    }

    private static void sizes() {
        for (int size = 1; size <= 6; size++) {
            int due = size;
            ClaimTriangle x = new ClaimTriangle();
            x.build(0, 12, false, size);
            Checks.answers("size " + size, due, () -> x.count(2));
            Checks.answers("its last row", 0, () -> x.cell(due - 1, 0));
            Checks.fails("no row behind it", Checks.BAD, () -> x.cell(due, 0));
        }
        for (int size : Edges.outside(1, 6)) {
            Checks.refuses("size " + size, Checks.BAD, Samples::busy, x -> x.build(0, 12, false, size));
        }
    }

    private static void firstTriangle() {
        ClaimTriangle x = new ClaimTriangle();
        x.pay(0, 11, 11, 1);
        x.pay(0, 11, 12, 2);
        x.pay(0, 12, 12, 4);
        x.pay(1, 0, 0, 8);
        x.estimate(0, 0, 0, 16);
        Checks.answers("line 0, step 12, paid", 1, () -> x.cell(0, 0));
        Checks.answers("n 1", 1, () -> x.count(2));
        Checks.fails("no second row", Checks.BAD, () -> x.cell(1, 0));
        Checks.fails("no second column", Checks.BAD, () -> x.cell(0, 1));
        Checks.answers("nothing is left out", 0, () -> x.leave(0, 0, false));
    }

    private static void cellsBelowSize() {
        for (int size = 1; size <= 6; size++) {
            ClaimTriangle x = new ClaimTriangle();
            x.build(0, 1, false, size);
            for (int i = -1; i <= 7; i++) {
                for (int j = -1; j <= 7; j++) {
                    int row = i;
                    int column = j;
                    boolean there = i >= 0 && j >= 0 && i + j < size;
                    Checks.same("size " + size + ", cell " + i + ", " + j, there ? "0" : Checks.BAD,
                            Checks.outcome(() -> x.cell(row, column)));
                    Checks.same("size " + size + ", leave " + i + ", " + j, there ? "0" : Checks.BAD,
                            Checks.outcome(() -> x.leave(row, column, false)));
                }
            }
        }
        int most = Integer.MAX_VALUE;
        int least = Integer.MIN_VALUE;
        int[][] wrapped = {{most, 1}, {1, most}, {most, most}, {least, least}, {2, least}, {least, 2}, {most, least}};
        for (int[] pair : wrapped) {
            String what = pair[0] + ", " + pair[1] + ", whose sum wraps round or is small";
            Checks.refuses("cell " + what, Checks.BAD, Samples::busy, x -> x.cell(pair[0], pair[1]));
            Checks.refuses("leave " + what, Checks.BAD, Samples::busy, x -> x.leave(pair[0], pair[1], true));
        }
    }

    /** Payments just before, in and just behind the last month that counts. */
    private static void paidCell() {
        for (int step : new int[] {1, 5, 12}) {
            for (int i = 0; i < 3; i++) {
                for (int j = 0; i + j < 3; j++) {
                    int row = i;
                    int column = j;
                    int before = (i + j + 1) * step;
                    ClaimTriangle x = new ClaimTriangle();
                    x.build(0, step, false, 3);
                    x.pay(0, i * step, before - 1, 1);
                    x.pay(0, i * step, before, 2);
                    x.pay(1, i * step, before - 1, 4);
                    x.pay(0, (i + 1) * step, (i + 1) * step, 8);
                    if (i > 0) {
                        x.pay(0, i * step - 1, i * step, 16);
                    }
                    x.pay(0, i * step + step - 1, before - 1, 32);
                    x.estimate(0, i * step, before - 1, 64);
                    x.strike(x.pay(0, i * step, i * step, 128));
                    Checks.answers("step " + step + ", cell " + i + ", " + j, 33, () -> x.cell(row, column));
                }
            }
        }
    }

    private static void incurredCell() {
        for (int step : new int[] {1, 5, 12}) {
            ClaimTriangle x = new ClaimTriangle();
            x.build(0, step, true, 4);
            Checks.answers("no entries", 0, () -> x.cell(0, 3));
            x.pay(0, 0, 0, 1000);
            x.estimate(0, 0, step - 1, 1);
            x.estimate(0, 0, step, 2);
            x.estimate(0, 0, 3 * step - 1, 4);
            x.estimate(0, 0, 3 * step, 0);
            x.estimate(1, 0, 3 * step, 64);
            x.estimate(0, step, step, 8);
            Checks.answers("step " + step + ", in the last month before", 1001, () -> x.cell(0, 0));
            Checks.answers("step " + step + ", in the first month then", 1002, () -> x.cell(0, 1));
            Checks.answers("step " + step + ", in the last month of it", 1004, () -> x.cell(0, 2));
            Checks.answers("step " + step + ", one of 0 in its stead", 1000, () -> x.cell(0, 3));
            Checks.answers("step " + step + ", another period's", 8, () -> x.cell(1, 0));
            x.strike(4);
            Checks.answers("step " + step + ", a struck one is none", 1004, () -> x.cell(0, 3));
        }
        ClaimTriangle x = new ClaimTriangle();
        x.build(0, 12, true, 6);
        x.estimate(0, 0, 71, 16);
        x.estimate(0, 11, 70, 32);
        Checks.answers("not before the last month", 0, () -> x.cell(0, 4));
        Checks.answers("the last months, for each origin one", 48, () -> x.cell(0, 5));
    }

    private static void severalEstimates() {
        ClaimTriangle x = new ClaimTriangle();
        x.build(0, 12, true, 2);
        x.estimate(0, 3, 5, 50);
        x.estimate(0, 3, 5, 20);
        x.estimate(0, 3, 5, 30);
        x.estimate(1, 3, 5, 90);
        Checks.answers("the greatest number, not the greatest amount", 30, () -> x.cell(0, 0));
        Checks.answers("and it stays", 30, () -> x.cell(0, 1));
        x.strike(2);
        Checks.answers("of those that live", 20, () -> x.cell(0, 0));
        x.move(0, 3, 6);
        Checks.answers("a greater month before a greater number", 50, () -> x.cell(0, 0));
        x.move(0, 4, 5);
        Checks.answers("of one origin alone", 70, () -> x.cell(0, 0));
        x.move(0, 3, 5);
        Checks.answers("the number is of when it was made", 20, () -> x.cell(0, 0));
    }

    private static void followsEntries() {
        ClaimTriangle x = new ClaimTriangle();
        x.build(0, 1, true, 2);
        Checks.answers("none yet", 0, () -> x.cell(0, 1));
        x.pay(0, 0, 0, 5);
        Checks.answers("a payment", 5, () -> x.cell(0, 1));
        x.estimate(0, 0, 1, 7);
        Checks.answers("an estimate", 12, () -> x.cell(0, 1));
        x.move(0, 1, 1);
        Checks.answers("a move", 7, () -> x.cell(0, 1));
        Checks.answers("a move, where to", 5, () -> x.cell(1, 0));
        x.hide(1);
        x.strike(1);
        x.pay(0, 0, 1, 9);
        x.hide(0);
        Checks.answers("a strike and a payment while it was hidden", 9, () -> x.cell(0, 1));
        x.pay(1, 0, 0, 11);
        x.build(1, 1, false, 2);
        Checks.answers("a payment from before the build", 11, () -> x.cell(0, 1));
        for (int k = 0; k < 6; k++) {
            paidWhileHidden(k);
        }
    }

    private static void paidWhileHidden(int k) {
        ClaimTriangle x = new ClaimTriangle();
        x.build(0, 1, false, 6);
        x.hide(k);
        for (int i = 0; i < 6; i++) {
            x.pay(0, i, i, 1);
        }
        x.hide(0);
        for (int i = 0; i < 6; i++) {
            for (int j = 0; i + j < 6; j++) {
                int row = i;
                int column = j;
                Checks.answers(i + ", " + j + ", paid while " + k + " were hidden", 1, () -> x.cell(row, column));
            }
        }
    }

    private static void leftOut() {
        ClaimTriangle x = Samples.insuredYears();
        x.leave(0, 0, true);
        Checks.parts("a factor", 8, 5, below -> x.factor(ALL, 0, below));
        Checks.parts("LATEST's", 8, 5, below -> x.factor(LATEST, 0, below));
        x.leave(0, 0, false);
        Checks.parts("taken in again", 47, 30, below -> x.factor(ALL, 0, below));
        x.leave(2, 0, true);
        Checks.answers("the cell itself", 300, () -> x.cell(2, 0));
        Checks.parts("an ultimate's latest cell", 564, 1, below -> x.ultimate(ALL, 2, below));
        Checks.parts("a reserve", 264, 1, below -> x.reserve(ALL, 2, below));
        Checks.parts("an ultimate expected", 450, 1, below -> x.ultimate(EXPECTED, 2, below));
        Checks.answers("a diagonal", 450, () -> x.diagonal(2));
        x.leave(1, 1, true);
        x.hide(1);
        Checks.parts("the cell that an error is held against", -20, 1, below -> x.error(ALL, 1, below));
    }

    private static void hidden() {
        ClaimTriangle x = Samples.years();
        Checks.answers("at first", 0, () -> x.count(3));
        x.hide(1);
        Checks.answers("the latest that is left of row 0", 150, () -> x.cell(0, 1));
        Checks.fails("row 0", Checks.BAD, () -> x.cell(0, 2));
        Checks.fails("row 1", Checks.BAD, () -> x.cell(1, 1));
        Checks.fails("row 2", Checks.BAD, () -> x.cell(2, 0));
        x.hide(2);
        Checks.answers("the only one that is left", 100, () -> x.cell(0, 0));
        Checks.fails("none beside it", Checks.BAD, () -> x.cell(0, 1));
        Checks.fails("none below it", Checks.BAD, () -> x.cell(1, 0));
    }

    private static void insteadOfSize() {
        ClaimTriangle x = Samples.insuredYears();
        x.hide(1);
        Checks.parts("a factor", 3, 2, below -> x.factor(ALL, 0, below));
        Checks.partsFail("the factors end", Checks.BAD, below -> x.factor(ALL, 1, below));
        Checks.parts("an ultimate", 300, 1, below -> x.ultimate(ALL, 1, below));
        Checks.parts("a reserve", 100, 1, below -> x.reserve(ALL, 1, below));
        Checks.partsFail("the rows end", Checks.BAD, below -> x.ultimate(EXPECTED, 2, below));
        Checks.parts("a total", 1275 - 350, 1, below -> x.total(EXPECTED, below));
        Checks.partsFail("a deviation of one row", Checks.UNDEFINED, below -> x.deviation(0, below));
        Checks.fails("the diagonals end", Checks.BAD, () -> x.diagonal(2));
        Checks.parts("but an error sees what is hidden", -20, 1, below -> x.error(ALL, 1, below));
        x.leave(0, 2, true);
        Checks.parts("what is left out while hidden changes nothing", 3, 2, below -> x.factor(ALL, 0, below));
        x.hide(2);
        Checks.parts("one row", 100, 1, below -> x.ultimate(ALL, 0, below));
        Checks.partsFail("and no factor", Checks.BAD, below -> x.factor(ALL, 0, below));
    }
}
