import java.math.BigInteger;

/** 'Terms', from the fractions to the methods' numbers: steps at the limit and beyond it. */
final class FractionTerms {
    private static final int ALL = Samples.ALL;
    private static final int LATEST = Samples.LATEST;
    private static final int EXPECTED = Samples.EXPECTED;
    private static final int BLEND = Samples.BLEND;
    private static final long LIMIT = Samples.LIMIT;
    private static final int[] ONES = Samples.ONES;

    /** Their product is 2^62. */
    private static final int[] TO_LIMIT = {8192, 8192, 8192, 8192, 1024};

    /** Their product is 2^62 + 1. */
    private static final int[] BEYOND = {5, 5581, 8681, 49477, 384773};

    /** None has a divisor in common with what it stands over in BEYOND. */
    private static final int[] OVER_BEYOND = {1, 1, 1, 39478, 374774};

    private FractionTerms() {
    }

    static void check(Sentences terms) {
        terms.holds("FRACTIONS are in lowest terms, the part below more than 0 (nothing is 0 / 1).",
                FractionTerms::lowestTerms);
        terms.holds("They are worked out step by step, each step a product or a sum of two,",
                FractionTerms::stepByStep);
        terms.holds("or an INVERSE: of a / b (not 0) that is b / a, with its sign above.", FractionTerms::inverse);
        terms.holds("Of a / b and c / d the PRODUCT is, when a and d, and c and b, have been divided by their"
                + " greatest common divisors, a c / b d;", FractionTerms::product);
        terms.holds("the SUM is that of both over the least common multiple of b and d, brought to lowest terms"
                + " then.", FractionTerms::sum);
        terms.holds("A step is TOO LONG if a c or b d,", FractionTerms::longProduct);
        terms.holds("or that multiple,", FractionTerms::longMultiple);
        terms.holds("or one of the parts above over it,", FractionTerms::longPartAbove);
        terms.holds("or their sum, is not -2^62 .. 2^62", FractionTerms::longSum);
        terms.holds("(whatever it comes to in lowest terms).", FractionTerms::longWhateverItComesTo);
        terms.holds("METHODS: 0 ALL, 1 LATEST, 2 EXPECTED, 3 BLEND.", FractionTerms::methods);
    }

    private static ClaimTriangle steep(int[] tops, int[] bottoms, int newest) {
        return Samples.steep(tops, bottoms, newest);
    }

    private static int[] row(int... values) {
        return values;
    }

    private static void lowestTerms() {
        ClaimTriangle x = Samples.cells(3, row(4, 6, 6), row(-10, 0));
        for (int above = -12; above <= 12; above++) {
            for (int below = 1; below <= 12; below++) {
                shortened(above, below);
            }
        }
        Checks.parts("a sum below under 0", -1, 1, below -> x.factor(ALL, 0, below));
        Checks.parts("a factor that is shortened", 1, 1, below -> x.factor(ALL, 1, below));
        x.leave(0, 0, true);
        Checks.parts("a factor of nothing, over less than 0", 0, 1, below -> x.factor(ALL, 0, below));
        Checks.parts("an ultimate of nothing", 0, 1, below -> x.ultimate(ALL, 1, below));
        Checks.parts("a reserve of nothing", 0, 1, below -> x.reserve(ALL, 0, below));
        Checks.parts("a total of nothing", 0, 1, below -> new ClaimTriangle().total(BLEND, below));
        Checks.parts("an error of nothing", 0, 1, below -> x.error(LATEST, 0, below));
        ClaimTriangle even = Samples.cells(3, row(4, 6), row(2, 3));
        Checks.parts("a deviation of nothing", 0, 1, below -> even.deviation(0, below));
        ClaimTriangle y = Samples.tailed(10, 9999, 3333);
        Checks.parts("a tail that is shortened", 30, 1, below -> y.ultimate(ALL, 0, below));
        y.premium(0, 0, 7);
        y.ratio(0, 0, 9999);
        Checks.parts("a ratio of nothing", 0, 1, below -> y.ultimate(EXPECTED, 0, below));
        y.ratio(0, 8, 28);
        Checks.parts("a ratio that is shortened", 2, 1, below -> y.ultimate(EXPECTED, 0, below));
    }

    private static void shortened(int above, int below) {
        int shared = BigInteger.valueOf(above).gcd(BigInteger.valueOf(below)).intValue();
        String what = above + " by " + below;
        Checks.parts(what, above / shared, below / shared,
                part -> Samples.cells(2, row(below, above)).factor(ALL, 0, part));
        Checks.parts(what + ", both less", above / shared, below / shared,
                part -> Samples.cells(2, row(-below, -above)).factor(ALL, 0, part));
    }

    private static void stepByStep() {
        Checks.partsFail("a long way, though the cell is 0", Checks.LONG,
                below -> steep(BEYOND, ONES, 0).ultimate(ALL, 5, below));
        Checks.partsFail("a long way, though nothing is expected", Checks.LONG,
                below -> steep(BEYOND, ONES, 0).ultimate(BLEND, 5, below));
        Checks.parts("a row whose own steps go", 49477L * 384772, 1,
                below -> steep(BEYOND, ONES, 0).reserve(ALL, 1, below));
    }

    private static void inverse() {
        Checks.parts("of 2^62", LIMIT - 1, LIMIT, below -> blended(TO_LIMIT, ONES, 0).ultimate(BLEND, 5, below));
        Checks.parts("of 1 / 2^62", 1 - LIMIT, 1, below -> blended(ONES, TO_LIMIT, 0).ultimate(BLEND, 5, below));
        Checks.partsFail("of -2^62: 1 and 1 / 2^62 have a long sum", Checks.LONG,
                below -> blended(row(8192, 8192, 8192, 8192, -1024), ONES, 0).ultimate(BLEND, 5, below));
        Checks.partsFail("of -2^62, though nothing is expected", Checks.LONG,
                below -> steep(row(8192, 8192, 8192, 8192, -1024), ONES, 0).ultimate(BLEND, 5, below));
        Checks.partsFail("of -1 / 2^62, though nothing is expected", Checks.LONG,
                below -> steep(row(1, 1, 1, 1, -1), TO_LIMIT, 0).ultimate(BLEND, 5, below));
        Checks.partsFail("of -1 / 2^62: 1 and 2^62 too", Checks.LONG,
                below -> blended(row(1, 1, 1, 1, -1), TO_LIMIT, 0).ultimate(BLEND, 5, below));
        Checks.parts("of -2", 3, 2, below -> blended(row(1, 1, 1, 1, -2), ONES, 0).ultimate(BLEND, 5, below));
        Checks.parts("of -2 / 3", 5, 2, below -> blended(row(1, 1, 1, 1, -2), row(1, 1, 1, 1, 3), 0)
                .ultimate(BLEND, 5, below));
        Checks.parts("of 2 / 3", -1, 2, below -> blended(row(1, 1, 1, 1, 2), row(1, 1, 1, 1, 3), 0)
                .ultimate(BLEND, 5, below));
        Checks.partsFail("of 0", Checks.UNDEFINED,
                below -> blended(row(1, 1, 1, 1, 0), ONES, 0).ultimate(BLEND, 5, below));
    }

    /** A steep triangle whose newest row is expected to come to 1. */
    private static ClaimTriangle blended(int[] tops, int[] bottoms, int newest) {
        ClaimTriangle x = steep(tops, bottoms, newest);
        x.premium(0, 5, 1);
        return x;
    }

    private static void product() {
        long shortened = 2187L << 39;
        Checks.parts("a and d are shortened first", shortened, 1,
                below -> steep(row(8192, 8192, 8192, 8192, 2187), row(1, 1, 1, 1, 8192), 1).ultimate(ALL, 5, below));
        Checks.parts("c and b are shortened first", 1, shortened,
                below -> steep(row(1, 1, 1, 1, 8192), row(8192, 8192, 8192, 8192, 2187), 1).ultimate(ALL, 5, below));
        Checks.parts("the cell and the way's part below", 1, LIMIT / 1024,
                below -> steep(ONES, TO_LIMIT, 1024).ultimate(ALL, 5, below));
        Checks.parts("both ways at once", 3, 2,
                below -> steep(row(1, 1, 1, 4, 9), row(1, 1, 1, 3, 8), 1).ultimate(ALL, 5, below));
        Checks.parts("with 0", 0, 1, below -> steep(row(1, 1, 1, 0, 9), row(1, 1, 1, 3, 8), 5).ultimate(ALL, 5, below));
    }

    private static void sum() {
        ClaimTriangle x = steep(ONES, row(8192, 8192, 8192, 8192, 1), 1);
        long above = (1L << 39) + (1L << 26) + (1L << 13) + 1 - (4L << 52);
        Checks.parts("the least common multiple goes, the product would not", above, 1L << 52,
                below -> x.total(ALL, below));
        ClaimTriangle halves = Samples.cells(3, row(1, 1, 1), row(1, 1), row(1));
        halves.ratio(0, 1, 2);
        for (int month = 0; month < 3; month++) {
            halves.premium(0, month, 1);
        }
        Checks.parts("three times a half less", -3, 2, below -> halves.total(EXPECTED, below));
        Checks.parts("lowest terms then", 1, 19999L * 10000 * 9999,
                below -> Samples.alike(10000).deviation(0, below));
    }

    private static void longProduct() {
        Checks.parts("2^62 above", LIMIT, 1, below -> steep(TO_LIMIT, ONES, 1).ultimate(ALL, 5, below));
        Checks.parts("-2^62 above", -LIMIT, 1, below -> steep(TO_LIMIT, ONES, -1).ultimate(ALL, 5, below));
        Checks.parts("2^62 below", 1, LIMIT, below -> steep(ONES, TO_LIMIT, 1).ultimate(LATEST, 5, below));
        Checks.partsFail("2^62 + 1 above", Checks.LONG, below -> steep(BEYOND, ONES, 1).ultimate(ALL, 5, below));
        Checks.partsFail("-2^62 - 1 above", Checks.LONG,
                below -> steep(row(-5, 5581, 8681, 49477, 384773), ONES, 1).ultimate(LATEST, 5, below));
        Checks.partsFail("2^62 + 1 below", Checks.LONG, below -> steep(OVER_BEYOND, BEYOND, 1).ultimate(ALL, 5, below));
        Checks.partsFail("twice 2^62, by the cell", Checks.LONG,
                below -> steep(TO_LIMIT, ONES, 2).ultimate(ALL, 5, below));
        Checks.partsFail("2^63 above, the least long", Checks.LONG,
                below -> steep(row(8192, 8192, 8192, 8192, 2048), ONES, 1).ultimate(ALL, 5, below));
        Checks.partsFail("2^64 above, that wraps round to 0", Checks.LONG,
                below -> steep(row(8192, 8192, 8192, 8192, 4096), ONES, 1).ultimate(ALL, 5, below));
        Checks.partsFail("2^64 + 2^48 above, that wraps round to 2^48", Checks.LONG,
                below -> steep(row(65536, 65536, 65536, 65537, 1), ONES, 1).ultimate(ALL, 5, below));
        Checks.partsFail("2^64 below", Checks.LONG,
                below -> steep(ONES, row(8192, 8192, 8192, 8192, 4096), 1).ultimate(ALL, 5, below));
        Checks.partsFail("the product of x and x", Checks.LONG,
                below -> Samples.cells(3, row(-100000, 1), row(100001, 100000)).deviation(0, below));
    }

    /** The multiple is (2 c - 1)^2 c (c - 1), which passes 2^62 just behind c = 2^15. */
    private static void longMultiple() {
        Checks.parts("2^62", 1 - LIMIT, LIMIT, below -> steep(ONES, TO_LIMIT, 1).reserve(ALL, 5, below));
        Checks.parts("just below 2^62", 1, 70365522984960L, below -> Samples.alike(32768).deviation(0, below));
        Checks.partsFail("just beyond", Checks.LONG, below -> Samples.alike(32769).deviation(0, below));
    }

    private static void longPartAbove() {
        Checks.parts("a second one of -2^62", 1 - LIMIT, LIMIT,
                below -> steep(ONES, TO_LIMIT, 1).reserve(ALL, 5, below));
        Checks.parts("a second one of 2^62", LIMIT - 1, LIMIT,
                below -> steep(ONES, TO_LIMIT, -1).reserve(ALL, 5, below));
        Checks.parts("a second one below 2^62", -3689348755560598436L, 922337203685477581L,
                below -> steep(OVER_BEYOND, row(1, 5581, 8681, 49477, 384773), 4).reserve(ALL, 5, below));
        Checks.partsFail("a second one of -2^62 - 1", Checks.LONG,
                below -> steep(OVER_BEYOND, row(1, 5581, 8681, 49477, 384773), 5).reserve(ALL, 5, below));
        Checks.partsFail("a second one of 2^62 + 1", Checks.LONG,
                below -> steep(OVER_BEYOND, row(1, 5581, 8681, 49477, 384773), -5).reserve(ALL, 5, below));
        Checks.parts("a first one below 2^62", -246280940486696L, 9, below -> widened(14560).total(ALL, below));
        Checks.partsFail("a first one just beyond", Checks.LONG, below -> widened(14562).total(ALL, below));
        Checks.answers("though each reserve goes", 0, () -> widened(14562).marks(ALL));
    }

    /** The total so far is brought over 9, and what is added to it is about as much, less. */
    private static ClaimTriangle widened(int cell) {
        return steep(row(1, cell, 32768, 32768, 32768), row(9, cell, 1, 1, 1), -131065);
    }

    private static void longSum() {
        int[] factors = {-15841, 151, 631, 23311, 1};
        Checks.parts("2^62", LIMIT, 1, below -> steep(factors, ONES, -131072).reserve(ALL, 5, below));
        Checks.parts("-2^62", -LIMIT, 1, below -> steep(factors, ONES, 131072).reserve(ALL, 5, below));
        int[] under = {8192, 8192, 8192, 8192, -1024};
        Checks.partsFail("2^62 + 1", Checks.LONG, below -> steep(under, ONES, -1).reserve(ALL, 5, below));
        Checks.partsFail("-2^62 - 1", Checks.LONG, below -> steep(under, ONES, 1).reserve(ALL, 5, below));
        Checks.parts("-2^62 of BLEND", -LIMIT, 1, below -> blended(ONES, TO_LIMIT, -1).ultimate(BLEND, 5, below));
        Checks.partsFail("-2^62 - 1 of BLEND", Checks.LONG,
                below -> blended(ONES, TO_LIMIT, -2).ultimate(BLEND, 5, below));
        Checks.partsFail("almost 2^63", Checks.LONG, below -> steep(TO_LIMIT, ONES, 1).total(ALL, below));
        Checks.answers("of reserves that go", 0, () -> steep(TO_LIMIT, ONES, 1).marks(ALL));
    }

    private static void longWhateverItComesTo() {
        Checks.partsFail("a multiple", Checks.LONG, below -> Samples.alike(40000).deviation(0, below));
        Checks.parts("halves whose sum is whole", 2111085857636930976L, 1,
                below -> ofHalves(60001).total(ALL, below));
        Checks.partsFail("halves whose sum is long before it is made whole", Checks.LONG,
                below -> ofHalves(100001).total(ALL, below));
        Checks.answers("though each reserve goes", 0, () -> ofHalves(100001).marks(ALL));
        Checks.partsFail("a part above that the other one brings back", Checks.LONG,
                below -> widened(14563).total(ALL, below));
    }

    private static ClaimTriangle ofHalves(int cell) {
        return steep(row(cell, 2, 32767, 32767, 32769), row(cell, 2, 1, 1, 2), cell);
    }

    private static void methods() {
        ClaimTriangle x = Samples.insuredYears();
        x.latest(1);
        Checks.parts("0 ALL", 564, 1, below -> x.ultimate(0, 2, below));
        Checks.parts("1 LATEST", 576, 1, below -> x.ultimate(1, 2, below));
        Checks.parts("2 EXPECTED", 450, 1, below -> x.ultimate(2, 2, below));
        Checks.parts("3 BLEND", 24000, 47, below -> x.ultimate(3, 2, below));
        for (int method : Edges.outside(0, 3)) {
            Checks.refuses("method " + method, Checks.BAD, Samples::busy, y -> y.ultimate(method, 0, false));
        }
    }
}
