/** 'Terms', from the factors to what is thrown. */
final class MethodTerms {
    private static final int ALL = Samples.ALL;
    private static final int LATEST = Samples.LATEST;
    private static final int EXPECTED = Samples.EXPECTED;
    private static final int BLEND = Samples.BLEND;
    private static final int[] ONES = Samples.ONES;

    private MethodTerms() {
    }

    static void check(Sentences terms) {
        terms.holds("A FACTOR j (0 .. n - 2) of ALL is the sum of cells i, j + 1 by the sum of cells i, j, over"
                + " all i with i + j + 1 below n, where neither is left out;", MethodTerms::factorOfAll);
        terms.holds("of LATEST the same over the r greatest of these i alone (all, if there are fewer; r is at"
                + " first 3).", MethodTerms::factorOfLatest);
        terms.holds("It is UNDEFINED if the sum below is 0.", MethodTerms::undefinedFactor);
        terms.holds("THE TAIL is a fraction, at first 1.", MethodTerms::tail);
        terms.holds("THE WAY of row i of ALL, or LATEST, is the product of its factors n - 1 - i, n - i, .. n - 2,"
                + " one after the other (from 1 on), and then the tail.", MethodTerms::way);
        terms.holds("ULTIMATE of row i: ALL and LATEST: its latest cell (i, n - 1 - i) times its way;",
                MethodTerms::ultimate);
        terms.holds("EXPECTED: the sum of the premiums of the origins in period i times the ratio;",
                MethodTerms::expected);
        terms.holds("BLEND: the way of ALL, its inverse taken less, the sum of 1 and that, the product of that and"
                + " EXPECTED's, and the sum of that and the latest cell;", MethodTerms::blend);
        terms.holds("it is undefined if the way is 0.", MethodTerms::wayOfNothing);
        terms.holds("RESERVE: the sum of the ultimate and the latest cell taken less.", MethodTerms::reserve);
        terms.holds("TOTAL: the sum of the reserves of rows 0, 1, .. from 0 on.", MethodTerms::total);
        terms.holds("DEVIATION of factor j: for each row i that ALL takes, from the least on: x is the sum of"
                + " cell i, j + 1 and the product of the factor (ALL's) and cell i, j, taken less; the product of x"
                + " and x, and of that and 1 / cell i, j, is added to the sum so far (from 0 on);",
                MethodTerms::deviation);
        terms.holds("at last the product of that and 1 / one less than there are rows.", MethodTerms::byRows);
        terms.holds("Undefined if the factor is,", MethodTerms::deviationOfUndefinedFactor);
        terms.holds("some such cell i, j is 0,", MethodTerms::deviationWithCellOfNothing);
        terms.holds("or there are fewer than two.", MethodTerms::deviationOfFewRows);
        terms.holds("ERROR of row i: with k periods hidden, its latest cell times the factors n - k - 1 - i up to"
                + " n - 2 - i (one after the other, that product from 1 on first, without the tail), and the sum of"
                + " that and cell i, n - 1 - i, taken less;", MethodTerms::error);
        terms.holds("i is k to n - k - 1", MethodTerms::rowsWithError);
        terms.holds("(the factors are of the triangle as it is with the hidden periods).",
                MethodTerms::factorsOfError);
        terms.holds("What is undefined (a total: if the reserve of some row is) throws ArithmeticException;",
                MethodTerms::undefined);
        terms.holds("otherwise, what has a step that is too long throws UnsupportedOperationException.",
                MethodTerms::tooLong);
        terms.holds("(Whether a way is 0 is not known if it is too long.)", MethodTerms::longWayOfNothing);
    }

    private static ClaimTriangle steep(int[] tops, int[] bottoms, int newest) {
        return Samples.steep(tops, bottoms, newest);
    }

    private static int[] row(int... values) {
        return values;
    }

    /** All cells are 1. */
    private static ClaimTriangle level(int size) {
        ClaimTriangle x = new ClaimTriangle();
        x.build(0, 1, false, size);
        for (int i = 0; i < size; i++) {
            x.pay(0, i, i, 1);
        }
        return x;
    }

    /** Cells i, 0 are 1 and cells i, 1 are 1 + 2^i, so that a sum tells its rows. */
    private static ClaimTriangle telling() {
        ClaimTriangle x = level(6);
        for (int i = 0; i < 5; i++) {
            x.pay(0, i, i + 1, 1 << i);
        }
        return x;
    }

    private static void factorOfAll() {
        for (int size = 1; size <= 6; size++) {
            ClaimTriangle x = level(size);
            for (int j = 0; j <= size - 2; j++) {
                int asked = j;
                Checks.parts("size " + size + ", factor " + j, 1, 1, below -> x.factor(ALL, asked, below));
            }
            for (int j : Edges.outside(0, size - 2)) {
                Checks.partsFail("size " + size + ", factor " + j, Checks.BAD, below -> x.factor(ALL, j, below));
            }
        }
        Checks.parts("rows 0 to 4", 5 + 31, 5, below -> telling().factor(ALL, 0, below));
        for (int[] cell : new int[][] {{2, 0}, {2, 1}}) {
            ClaimTriangle x = telling();
            x.leave(cell[0], cell[1], true);
            Checks.parts("without row 2", 4 + 27, 4, below -> x.factor(ALL, 0, below));
        }
        ClaimTriangle x = telling();
        x.leave(2, 0, true);
        x.leave(2, 1, true);
        Checks.parts("without row 2, once", 4 + 27, 4, below -> x.factor(ALL, 0, below));
        ClaimTriangle y = telling();
        y.leave(2, 2, true);
        y.leave(5, 0, true);
        Checks.parts("others may be left out", 5 + 31, 5, below -> y.factor(ALL, 0, below));
    }

    private static void factorOfLatest() {
        ClaimTriangle x = telling();
        Checks.parts("three at first", 3 + 28, 3, below -> x.factor(LATEST, 0, below));
        int[] above = {17, 13, 31, 17, 36, 36};
        int[] under = {1, 1, 3, 2, 5, 5};
        for (int r = 1; r <= 6; r++) {
            x.latest(r);
            Checks.parts("r is " + r, above[r - 1], under[r - 1], below -> x.factor(LATEST, 0, below));
        }
        x.latest(2);
        x.leave(4, 1, true);
        Checks.parts("the greatest that are not left out", 7, 1, below -> x.factor(LATEST, 0, below));
        x.leave(3, 0, true);
        x.leave(2, 0, true);
        Checks.parts("all that there are", 5, 2, below -> x.factor(LATEST, 0, below));
        x.leave(1, 0, true);
        Checks.parts("one", 2, 1, below -> x.factor(LATEST, 0, below));
        ClaimTriangle y = telling();
        y.latest(1);
        y.hide(3);
        Checks.parts("the greatest that is not hidden", 3, 1, below -> y.factor(LATEST, 0, below));
        Checks.partsFail("factors end where ALL's do", Checks.BAD, below -> y.factor(LATEST, 2, below));
    }

    private static void undefinedFactor() {
        ClaimTriangle none = new ClaimTriangle();
        none.build(0, 12, false, 2);
        Checks.partsFail("cells of 0", Checks.UNDEFINED, below -> none.factor(ALL, 0, below));
        none.pay(0, 0, 12, 5);
        Checks.partsFail("5 by 0", Checks.UNDEFINED, below -> none.factor(LATEST, 0, below));
        ClaimTriangle even = Samples.cells(3, row(7, 8), row(-7, 9));
        Checks.partsFail("7 less 7", Checks.UNDEFINED, below -> even.factor(ALL, 0, below));
        even.latest(1);
        Checks.parts("LATEST takes -7 alone", -9, 7, below -> even.factor(LATEST, 0, below));
        even.leave(1, 0, true);
        Checks.parts("7 alone", 8, 7, below -> even.factor(ALL, 0, below));
        even.leave(0, 1, true);
        Checks.partsFail("all are left out", Checks.UNDEFINED, below -> even.factor(ALL, 0, below));
        Checks.partsFail("of LATEST's too", Checks.UNDEFINED, below -> even.factor(LATEST, 0, below));
        Checks.parts("a sum above of 0 is fine", 0, 1,
                below -> Samples.cells(2, row(7, 0)).factor(ALL, 0, below));
        Checks.parts("a sum below under 0 too", -3, 2, below -> Samples.cells(2, row(-2, 3)).factor(ALL, 0, below));
    }

    private static void tail() {
        ClaimTriangle x = new ClaimTriangle();
        x.pay(0, 0, 0, 9999);
        Checks.parts("at first", 9999, 1, below -> x.ultimate(ALL, 0, below));
        x.ratio(-1, 1, 9999);
        Checks.parts("the least but 0", 1, 1, below -> x.ultimate(ALL, 0, below));
        x.ratio(-1, 9999, 1);
        Checks.parts("the greatest", 9999 * 9999, 1, below -> x.ultimate(LATEST, 0, below));
        x.ratio(-1, 0, 5);
        Checks.parts("0", 0, 1, below -> x.ultimate(ALL, 0, below));
    }

    private static void way() {
        ClaimTriangle x = steep(row(2, 3, 5, 7, 11), ONES, 1);
        x.ratio(-1, 13, 17);
        int[] latest = {11, 7, 5, 3, 2, 1};
        int[] products = {1, 11, 77, 385, 1155, 2310};
        for (int i = 0; i < 6; i++) {
            int asked = i;
            Checks.parts("row " + i, 13L * latest[i] * products[i], 17, below -> x.ultimate(ALL, asked, below));
            Checks.parts("LATEST's row " + i, 13L * latest[i] * products[i], 17,
                    below -> x.ultimate(LATEST, asked, below));
        }
        Checks.partsFail("the first factors are long", Checks.LONG,
                below -> steep(row(65536, 65536, 65536, 65536, 1), row(1, 1, 1, 1, 65536), 1).ultimate(ALL, 5, below));
        Checks.parts("the last factors would be", 1L << 48, 1,
                below -> steep(row(1, 65536, 65536, 65536, 65536), row(65536, 1, 1, 1, 1), 1).ultimate(ALL, 5, below));
        ClaimTriangle y = steep(row(8192, 8192, 8192, 8192, 2048), ONES, 1);
        y.ratio(-1, 1, 2);
        Checks.partsFail("the tail comes too late", Checks.LONG, below -> y.ultimate(ALL, 5, below));
        ClaimTriangle z = steep(row(8192, 8192, 8192, 8192, 1024), ONES, 1);
        z.ratio(-1, 2, 1);
        Checks.partsFail("the tail makes it long", Checks.LONG, below -> z.ultimate(ALL, 5, below));
    }

    private static void ultimate() {
        ClaimTriangle x = Samples.years();
        Checks.parts("row 0", 180, 1, below -> x.ultimate(ALL, 0, below));
        Checks.parts("row 1", 384, 1, below -> x.ultimate(ALL, 1, below));
        Checks.parts("row 2", 564, 1, below -> x.ultimate(ALL, 2, below));
        x.latest(1);
        Checks.parts("LATEST's row 2", 576, 1, below -> x.ultimate(LATEST, 2, below));
        Checks.parts("a cell of 0", 0, 1, below -> steep(row(2, 3, 5, 7, 11), ONES, 0).ultimate(ALL, 5, below));
        Checks.parts("a cell under 0", -2310, 1, below -> steep(row(2, 3, 5, 7, 11), ONES, -1).ultimate(ALL, 5, below));
        Checks.partsFail("the way is worked out before it", Checks.LONG,
                below -> steep(ONES, row(8192, 8192, 8192, 8192, 8192), 8192).ultimate(ALL, 5, below));
    }

    private static void expected() {
        for (int step : new int[] {1, 5, 12}) {
            ClaimTriangle x = new ClaimTriangle();
            x.build(0, step, false, 6);
            x.ratio(0, 2, 3);
            for (int month = 0; month < 72; month++) {
                x.premium(0, month, month + 1);
                x.premium(1, month, 9999);
            }
            for (int i = 0; i < 6; i++) {
                int asked = i;
                long first = (long) i * step + 1;
                long sum = step * (2 * first + step - 1) / 2;
                long shared = sum % 3 == 0 ? 3 : 1;
                Checks.parts("step " + step + ", row " + i, 2 * sum / shared, 3 / shared,
                        below -> x.ultimate(EXPECTED, asked, below));
            }
        }
        ClaimTriangle x = Samples.tailed(5, 0, 1);
        x.premium(0, 0, 7);
        Checks.parts("without the tail", 7, 1, below -> x.ultimate(EXPECTED, 0, below));
        ClaimTriangle none = new ClaimTriangle();
        none.build(0, 1, false, 6);
        none.premium(0, 5, 7);
        Checks.parts("without factors", 7, 1, below -> none.ultimate(EXPECTED, 5, below));
    }

    private static void blend() {
        ClaimTriangle x = Samples.insuredYears();
        x.latest(1);
        Checks.parts("a way of 1", 180, 1, below -> x.ultimate(BLEND, 0, below));
        Checks.parts("a way of 6 / 5", 765, 2, below -> x.ultimate(BLEND, 1, below));
        Checks.parts("the way of ALL", 24000, 47, below -> x.ultimate(BLEND, 2, below));
        x.ratio(-1, 5, 3);
        Checks.parts("with the tail", 1015, 2, below -> x.ultimate(BLEND, 1, below));
        x.ratio(-1, 1, 2);
        Checks.parts("a way below 1", 320 - 250, 1, below -> x.ultimate(BLEND, 1, below));
        x.ratio(0, 0, 1);
        Checks.parts("nothing is expected", 320, 1, below -> x.ultimate(BLEND, 1, below));
        ClaimTriangle y = steep(row(8192, 8192, 8192, 8192, 1024), ONES, 0);
        y.premium(0, 5, 3);
        Checks.partsFail("the product with what is expected is long", Checks.LONG,
                below -> y.ultimate(BLEND, 5, below));
        y.premium(0, 5, 0);
        Checks.parts("nothing is expected", 0, 1, below -> y.ultimate(BLEND, 5, below));
    }

    private static void wayOfNothing() {
        ClaimTriangle x = Samples.insuredYears();
        x.ratio(-1, 0, 7);
        for (int i = 0; i < 3; i++) {
            int asked = i;
            Checks.partsFail("a tail of 0, row " + i, Checks.UNDEFINED, below -> x.ultimate(BLEND, asked, below));
            Checks.parts("ALL is 0 then, row " + i, 0, 1, below -> x.ultimate(ALL, asked, below));
        }
        ClaimTriangle y = steep(row(3, 5, 0, 7, 11), ONES, 1);
        y.latest(6);
        Checks.partsFail("a factor of 0", Checks.UNDEFINED, below -> y.ultimate(BLEND, 5, below));
        Checks.partsFail("the least row that has it", Checks.UNDEFINED, below -> y.reserve(BLEND, 3, below));
        Checks.parts("a row that has it not", 0, 1, below -> y.reserve(BLEND, 2, below));
        Checks.answers("three rows", 3, () -> y.marks(BLEND));
        y.ratio(0, 0, 1);
        Checks.partsFail("though nothing is expected", Checks.UNDEFINED, below -> y.ultimate(BLEND, 5, below));
    }

    private static void reserve() {
        ClaimTriangle x = Samples.insuredYears();
        Checks.parts("ALL", 264, 1, below -> x.reserve(ALL, 2, below));
        Checks.parts("none", 0, 1, below -> x.reserve(ALL, 0, below));
        Checks.parts("EXPECTED", 720, 1, below -> x.reserve(EXPECTED, 0, below));
        Checks.parts("BLEND", 125, 2, below -> x.reserve(BLEND, 1, below));
        x.ratio(0, 0, 1);
        Checks.parts("nothing is expected", -300, 1, below -> x.reserve(EXPECTED, 2, below));
        Checks.parts("of a cell under 0", 5, 2, below -> Samples.tailed(-5, 1, 2).reserve(ALL, 0, below));
        ClaimTriangle y = steep(ONES, row(8192, 8192, 8192, 8192, 1024), 3);
        Checks.parts("an ultimate that goes", 3, Samples.LIMIT, below -> y.ultimate(ALL, 5, below));
        Checks.partsFail("whose reserve is long", Checks.LONG, below -> y.reserve(ALL, 5, below));
    }

    private static void total() {
        ClaimTriangle x = Samples.insuredYears();
        Checks.parts("ALL", 328, 1, below -> x.total(ALL, below));
        Checks.parts("EXPECTED", 925, 1, below -> x.total(EXPECTED, below));
        Checks.parts("one row", -5, 2, below -> Samples.tailed(5, 1, 2).total(ALL, below));
        int cell = 131072 - 1000;
        int[] bottoms = {cell, cell, 1, 1, 1};
        ClaimTriangle up = steep(row(cell, cell, 32768, 32768, 32768), bottoms, -cell);
        Checks.answers("each reserve goes", 0, () -> up.marks(ALL));
        Checks.partsFail("rows 3 and 4 are long before row 5 comes", Checks.LONG, below -> up.total(ALL, below));
        ClaimTriangle down = steep(row(-cell, cell, 32768, 32768, 32768), row(-cell, cell, 1, 1, 1), -cell);
        Checks.parts("rows 4 and 5 would be long, without row 3", -4576466460892660712L, 1,
                below -> down.total(ALL, below));
    }

    private static void deviation() {
        Checks.parts("of two rows", 2, 3, below -> Samples.years().deviation(0, below));
        ClaimTriangle x = Samples.years();
        x.latest(1);
        Checks.parts("ALL's factor", 2, 3, below -> x.deviation(0, below));
        ClaimTriangle y = Samples.cells(5, row(1, 2), row(1, 3), row(-1, 1), row(0, 9));
        y.leave(3, 0, true);
        Checks.parts("a cell under 0, and one that is left out", -12, 1, below -> y.deviation(0, below));
        ClaimTriangle z = five();
        Checks.parts("of factor 1, rows 0 to 2", 3317, 8400, below -> z.deviation(1, below));
        z.hide(1);
        Checks.parts("rows 0 and 1 alone", 169, 264, below -> z.deviation(1, below));
        int[][] rows = {{2000, 1773}, {118, 2489}, {1598, 9}, {-1598, -9}};
        Checks.partsFail("long before the last row comes", Checks.LONG,
                below -> Samples.cells(5, rows).deviation(0, below));
        Checks.parts("from the least row on it goes", 5685329978449L, 374886000,
                below -> Samples.cells(5, rows[2], rows[3], rows[0], rows[1]).deviation(0, below));
    }

    private static void byRows() {
        ClaimTriangle x = Samples.cells(4, row(1, 2), row(1, 3), row(-1, 1));
        Checks.parts("three rows, by 2", -12, 1, below -> x.deviation(0, below));
        x.leave(2, 1, true);
        Checks.parts("two rows, by 1", 1, 2, below -> x.deviation(0, below));
        ClaimTriangle y = Samples.cells(6, row(1, 1), row(1, 1), row(1, 1), row(1, 1), row(1, 6));
        Checks.parts("five rows, by 4", 5, 1, below -> y.deviation(0, below));
    }

    private static void deviationOfUndefinedFactor() {
        ClaimTriangle x = Samples.cells(3, row(7, 8), row(-7, 9));
        Checks.partsFail("7 less 7", Checks.UNDEFINED, below -> x.deviation(0, below));
        x.latest(1);
        Checks.partsFail("though LATEST's is not", Checks.UNDEFINED, below -> x.deviation(0, below));
    }

    private static void deviationWithCellOfNothing() {
        ClaimTriangle x = Samples.cells(4, row(7, 8), row(0, 9), row(3, 4));
        Checks.parts("the factor is fine", 21, 10, below -> x.factor(ALL, 0, below));
        Checks.partsFail("row 1", Checks.UNDEFINED, below -> x.deviation(0, below));
        x.leave(1, 0, true);
        Checks.parts("not if it is left out", 8, 105, below -> x.deviation(0, below));
        Checks.partsFail("the first row", Checks.UNDEFINED,
                below -> Samples.cells(3, row(0, 8), row(5, 9)).deviation(0, below));
        Checks.partsFail("the last row, x too being 0", Checks.UNDEFINED,
                below -> Samples.cells(3, row(5, 9), row(0, 0)).deviation(0, below));
        Checks.partsFail("behind rows that are too long", Checks.UNDEFINED,
                below -> Samples.cells(4, row(-100000, 1), row(100001, 100000), row(0, 1)).deviation(0, below));
        Checks.partsFail("behind a sum that is too long", Checks.UNDEFINED,
                below -> Samples.cells(4, row(1000, 1), row(999, 1), row(0, 150000)).deviation(0, below));
        Checks.parts("cells i, j + 1 may be 0", 0, 1,
                below -> Samples.cells(3, row(5, 0), row(6, 0)).deviation(0, below));
    }

    private static void deviationOfFewRows() {
        ClaimTriangle x = Samples.years();
        Checks.partsFail("one", Checks.UNDEFINED, below -> x.deviation(1, below));
        x.leave(1, 1, true);
        Checks.parts("the factor is fine", 3, 2, below -> x.factor(ALL, 0, below));
        Checks.partsFail("one that is not left out", Checks.UNDEFINED, below -> x.deviation(0, below));
        x.leave(0, 1, true);
        Checks.partsFail("none", Checks.UNDEFINED, below -> x.deviation(0, below));
        ClaimTriangle y = Samples.years();
        y.hide(1);
        Checks.partsFail("one that is not hidden", Checks.UNDEFINED, below -> y.deviation(0, below));
    }

    /** Cells 2 3 5 9 10, 4 8 9 10, 10 14 20, 7 8 and 5. */
    private static ClaimTriangle five() {
        return Samples.cells(5, row(2, 3, 5, 9, 10), row(4, 8, 9, 10), row(10, 14, 20), row(7, 8), row(5));
    }

    private static void error() {
        ClaimTriangle x = five();
        x.ratio(-1, 7, 1);
        for (int i = 0; i < 5; i++) {
            int asked = i;
            Checks.parts("nothing is hidden, row " + i, 0, 1, below -> x.error(ALL, asked, below));
        }
        x.hide(1);
        Checks.parts("one factor, row 1", 31, 5, below -> x.error(ALL, 1, below));
        x.hide(2);
        Checks.parts("two factors, without the tail", 95, 9, below -> x.error(ALL, 2, below));
        x.latest(1);
        Checks.parts("LATEST's", 40, 3, below -> x.error(LATEST, 2, below));
        ClaimTriangle great = Samples.cells(5, row(1, 9999, 299970), row(0, 0), row(100000, 0, -1));
        great.hide(2);
        Checks.parts("even great ones are not long", 100000L * 299970 + 1, 1, below -> great.error(ALL, 2, below));
    }

    private static void rowsWithError() {
        for (int size = 1; size <= 6; size++) {
            for (int k = 0; k < size; k++) {
                ClaimTriangle x = level(size);
                x.hide(k);
                String what = k + " of " + size + " are hidden, row ";
                for (int i = k; i <= size - k - 1; i++) {
                    int asked = i;
                    Checks.parts(what + i, 0, 1, below -> x.error(ALL, asked, below));
                }
                for (int i : Edges.outside(k, size - k - 1)) {
                    Checks.partsFail(what + i, Checks.BAD, below -> x.error(LATEST, i, below));
                }
            }
        }
    }

    private static void factorsOfError() {
        ClaimTriangle x = Samples.years();
        x.hide(1);
        Checks.parts("3 / 2, not 47 / 30", -20, 1, below -> x.error(ALL, 1, below));
        x.pay(0, 12, 24, 100);
        Checks.parts("what is hidden is no part of them", -120, 1, below -> x.error(ALL, 1, below));
        x.leave(1, 1, true);
        Checks.parts("nor if it is left out", -120, 1, below -> x.error(ALL, 1, below));
        x.leave(0, 1, true);
        Checks.partsFail("undefined if they are", Checks.UNDEFINED, below -> x.error(ALL, 1, below));
    }

    private static void undefined() {
        ClaimTriangle x = Samples.insuredYears();
        x.leave(0, 2, true);
        Checks.partsFail("a factor", Checks.UNDEFINED, below -> x.factor(ALL, 1, below));
        Checks.partsFail("an ultimate", Checks.UNDEFINED, below -> x.ultimate(ALL, 1, below));
        Checks.partsFail("a reserve", Checks.UNDEFINED, below -> x.reserve(LATEST, 2, below));
        Checks.fails("a rounded one", Checks.UNDEFINED, () -> x.rounded(BLEND, 1));
        Checks.partsFail("a total, row 0 being fine", Checks.UNDEFINED, below -> x.total(ALL, below));
        Checks.parts("a total that needs no factor", 925, 1, below -> x.total(EXPECTED, below));
        int[] tops = {65536, 65536, 65536, 65536, 1};
        ClaimTriangle none = steep(tops, row(1, 1, 1, 1, 0), 1);
        Checks.partsFail("though a step before is long", Checks.UNDEFINED, below -> none.ultimate(ALL, 5, below));
        Checks.partsFail("of BLEND too", Checks.UNDEFINED, below -> none.reserve(BLEND, 5, below));
        Checks.answers("the rows are marked so", 5, () -> none.marks(ALL));
        ClaimTriangle last = steep(tops, ONES, 1);
        last.leave(4, 0, true);
        Checks.partsFail("row 4 is long", Checks.LONG, below -> last.reserve(ALL, 4, below));
        Checks.partsFail("the total, by row 5 behind a long one", Checks.UNDEFINED, below -> last.total(ALL, below));
        Checks.refuses("nothing changes", Checks.UNDEFINED, MethodTerms::undefinedYears, y -> y.total(ALL, false));
    }

    private static ClaimTriangle undefinedYears() {
        ClaimTriangle x = Samples.insuredYears();
        x.leave(0, 2, true);
        return x;
    }

    private static ClaimTriangle longRows() {
        return steep(row(65536, 65536, 65536, 65536, 1), ONES, 1);
    }

    private static void tooLong() {
        Checks.partsFail("an ultimate", Checks.LONG, below -> longRows().ultimate(ALL, 5, below));
        Checks.partsFail("a reserve", Checks.LONG, below -> longRows().reserve(LATEST, 5, below));
        Checks.fails("a rounded one", Checks.LONG, () -> longRows().rounded(BLEND, 5));
        Checks.partsFail("a total", Checks.LONG, below -> longRows().total(ALL, below));
        Checks.partsFail("a deviation", Checks.LONG, below -> Samples.alike(40000).deviation(0, below));
        Checks.parts("a row before", 65535L << 16, 1, below -> longRows().reserve(ALL, 2, below));
        Checks.parts("a total that needs no way", -(4L * 65536 + 2), 1, below -> longRows().total(EXPECTED, below));
        Checks.refuses("nothing changes", Checks.LONG, MethodTerms::longRows, x -> x.total(BLEND, false));
        Checks.refuses("nor by a deviation", Checks.LONG, () -> Samples.alike(40000), x -> x.deviation(0, true));
    }

    private static void longWayOfNothing() {
        ClaimTriangle x = steep(row(65536, 65536, 65536, 65536, 0), ONES, 1);
        Checks.partsFail("a factor of 0 behind it", Checks.LONG, below -> x.ultimate(BLEND, 5, below));
        Checks.partsFail("a shorter way is known", Checks.UNDEFINED, below -> x.ultimate(BLEND, 3, below));
        Checks.answers("rows 1 to 4, and row 5", 14, () -> x.marks(BLEND));
        Checks.partsFail("the total is undefined", Checks.UNDEFINED, below -> x.total(BLEND, below));
        ClaimTriangle y = longRows();
        y.ratio(-1, 0, 1);
        Checks.partsFail("a tail of 0 behind it", Checks.LONG, below -> y.reserve(BLEND, 5, below));
        Checks.answers("rows 0 to 4, and row 5", 15, () -> y.marks(BLEND));
        Checks.partsFail("a factor of 0 before it", Checks.UNDEFINED,
                below -> steep(row(0, 65536, 65536, 65536, 65536), ONES, 1).ultimate(BLEND, 5, below));
    }
}
