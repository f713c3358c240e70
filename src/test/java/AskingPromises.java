import java.io.IOException;

/** Promises 13 to 22: what is told of the triangle. */
final class AskingPromises {
    private static final int ALL = Samples.ALL;
    private static final int LATEST = Samples.LATEST;
    private static final int EXPECTED = Samples.EXPECTED;
    private static final int BLEND = Samples.BLEND;
    private static final int[] ONES = Samples.ONES;

    /** A call that takes a method and a row, or a factor. */
    private interface Asked {
        long of(ClaimTriangle x, int method, int place, boolean below);
    }

    private AskingPromises() {
    }

    static void check() throws IOException {
        factor();
        ultimate();
        reserve();
        rounded();
        total();
        marks();
        deviation();
        error();
        diagonal();
        count();
    }

    private static ClaimTriangle undefinedYears() {
        ClaimTriangle x = Samples.insuredYears();
        x.leave(0, 2, true);
        return x;
    }

    private static ClaimTriangle longRows() {
        return Samples.steep(Samples.row(65536, 65536, 65536, 65536, 1), ONES, 1);
    }

    private static void refusesMethods(int greatest, Asked asked) {
        for (int method : Edges.outside(0, greatest)) {
            for (boolean below : new boolean[] {false, true}) {
                Checks.refuses("method " + method, Checks.BAD, Samples::years, x -> asked.of(x, method, 1, below));
                Checks.refuses("method " + method + " where ALL is undefined", Checks.BAD,
                        AskingPromises::undefinedYears, x -> asked.of(x, method, 1, below));
            }
        }
    }

    private static void refusesPlaces(int methods, int least, int greatest, Checks.Maker maker, Asked asked) {
        for (int place : Edges.outside(least, greatest)) {
            for (int method = 0; method < methods; method++) {
                int chosen = method;
                Checks.refuses("method " + method + ", " + place, Checks.BAD, maker,
                        x -> asked.of(x, chosen, place, false));
                Checks.refuses("method " + method + ", " + place + ", below", Checks.BAD, maker,
                        x -> asked.of(x, chosen, place, true));
            }
        }
    }

    private static void factor() throws IOException {
        Asked asked = (x, method, j, below) -> x.factor(method, j, below);
        Sentences promise = Sentences.of("Promise 13:");
        promise.holds("A factor of method 0 or 1; its part above, or below.", () -> {
            ClaimTriangle x = Samples.years();
            x.latest(1);
            Checks.parts("0 of ALL", 47, 30, below -> x.factor(ALL, 0, below));
            Checks.parts("1 of ALL", 6, 5, below -> x.factor(ALL, 1, below));
            Checks.parts("0 of LATEST", 8, 5, below -> x.factor(LATEST, 0, below));
        });
        promise.holds("IllegalArgumentException: there is none such;", () -> {
            refusesMethods(1, asked);
            refusesPlaces(2, 0, 1, Samples::years, asked);
            refusesPlaces(2, 0, 3, Samples::busy, asked);
            refusesPlaces(2, 0, -1, ClaimTriangle::new, asked);
            Checks.partsFail("EXPECTED has none", Checks.BAD, below -> Samples.years().factor(EXPECTED, 0, below));
            Checks.partsFail("BLEND has none", Checks.BAD, below -> Samples.years().factor(BLEND, 0, below));
        });
        promise.holds("ArithmeticException, UnsupportedOperationException.", () -> {
            Checks.refuses("undefined", Checks.UNDEFINED, AskingPromises::undefinedYears, x -> x.factor(ALL, 1, true));
            Checks.refuses("LATEST's", Checks.UNDEFINED, AskingPromises::undefinedYears,
                    x -> x.factor(LATEST, 1, false));
            Checks.parts("the greatest that there is, none is too long", 299970, 1,
                    below -> Samples.cells(2, Samples.row(1, 299970)).factor(ALL, 0, below));
            Checks.parts("the least", -299970, 1,
                    below -> Samples.cells(2, Samples.row(-1, 299970)).factor(ALL, 0, below));
        });
        promise.end();
    }

    private static void ultimate() throws IOException {
        Asked asked = (x, method, i, below) -> x.ultimate(method, i, below);
        Sentences promise = Sentences.of("Promise 14:");
        promise.holds("An ultimate, likewise.", () -> {
            ClaimTriangle x = Samples.insuredYears();
            x.latest(1);
            Checks.parts("ALL", 564, 1, below -> x.ultimate(ALL, 2, below));
            Checks.parts("LATEST", 576, 1, below -> x.ultimate(LATEST, 2, below));
            Checks.parts("EXPECTED", 450, 1, below -> x.ultimate(EXPECTED, 2, below));
            Checks.parts("BLEND", 24000, 47, below -> x.ultimate(BLEND, 2, below));
            failsLikewise(asked);
        });
        promise.holds("IllegalArgumentException: there is no such method", () -> refusesMethods(3, asked));
        promise.holds("or row.", () -> refusesRows(asked));
        promise.end();
    }

    private static void failsLikewise(Asked asked) {
        for (int method : new int[] {ALL, LATEST, BLEND}) {
            for (boolean below : new boolean[] {false, true}) {
                Checks.refuses("undefined, method " + method, Checks.UNDEFINED, AskingPromises::undefinedYears,
                        x -> asked.of(x, method, 1, below));
                Checks.refuses("too long, method " + method, Checks.LONG, AskingPromises::longRows,
                        x -> asked.of(x, method, 5, below));
            }
        }
    }

    private static void refusesRows(Asked asked) {
        refusesPlaces(4, 0, 2, Samples::years, asked);
        refusesPlaces(4, 0, 4, Samples::busy, asked);
        refusesPlaces(4, 0, 0, ClaimTriangle::new, asked);
        refusesPlaces(4, 0, 2, AskingPromises::undefinedYears, asked);
        refusesPlaces(4, 0, 5, AskingPromises::longRows, asked);
    }

    private static void reserve() throws IOException {
        Asked asked = (x, method, i, below) -> x.reserve(method, i, below);
        Sentences promise = Sentences.of("Promise 15:");
        promise.holds("A reserve, likewise.", () -> {
            ClaimTriangle x = Samples.insuredYears();
            x.latest(1);
            Checks.parts("ALL", 264, 1, below -> x.reserve(ALL, 2, below));
            Checks.parts("LATEST", 276, 1, below -> x.reserve(LATEST, 2, below));
            Checks.parts("EXPECTED", 150, 1, below -> x.reserve(EXPECTED, 2, below));
            Checks.parts("BLEND", 9900, 47, below -> x.reserve(BLEND, 2, below));
            failsLikewise(asked);
            refusesMethods(3, asked);
            refusesRows(asked);
        });
        promise.end();
    }

    private static void rounded() throws IOException {
        Asked asked = (x, method, i, below) -> x.rounded(method, i);
        Sentences promise = Sentences.of("Promise 16:");
        promise.holds("A reserve as the whole number that is nearest", () -> {
            nearest();
            failsLikewise(asked);
            refusesMethods(3, asked);
            refusesRows(asked);
        });
        promise.holds("(of two the greater one).", () -> {
            Checks.answers("125 / 2", 63, () -> Samples.insuredYears().rounded(BLEND, 1));
            Checks.answers("1 / 2", 1, () -> Samples.tailed(-1, 1, 2).rounded(ALL, 0));
            Checks.answers("-1 / 2", 0, () -> Samples.tailed(1, 1, 2).rounded(ALL, 0));
            Checks.answers("3 / 2", 2, () -> Samples.tailed(-3, 1, 2).rounded(LATEST, 0));
            Checks.answers("-3 / 2", -1, () -> Samples.tailed(3, 1, 2).rounded(LATEST, 0));
            Checks.answers("-9999 / 2", -4999, () -> Samples.tailed(9999, 1, 2).rounded(ALL, 0));
        });
        promise.end();
    }

    private static void nearest() {
        Checks.answers("whole", 264, () -> Samples.insuredYears().rounded(ALL, 2));
        Checks.answers("0", 0, () -> Samples.insuredYears().rounded(ALL, 0));
        Checks.answers("1 / 3", 0, () -> Samples.tailed(1, 4, 3).rounded(ALL, 0));
        Checks.answers("2 / 3", 1, () -> Samples.tailed(2, 4, 3).rounded(ALL, 0));
        Checks.answers("-1 / 3", 0, () -> Samples.tailed(1, 2, 3).rounded(ALL, 0));
        Checks.answers("-2 / 3", -1, () -> Samples.tailed(2, 2, 3).rounded(ALL, 0));
        Checks.answers("4 / 3", 1, () -> Samples.tailed(4, 4, 3).rounded(ALL, 0));
        Checks.answers("-5 / 3", -2, () -> Samples.tailed(5, 2, 3).rounded(ALL, 0));
        int[] powers = {8192, 8192, 8192, 8192, 512};
        Checks.answers("-1 / 2 less 1 / 2^61", -1,
                () -> Samples.steep(Samples.row(17325, 16523, 9211, 331, 1321), powers, 1).rounded(ALL, 5));
        Checks.answers("-1 / 2 and 1 / 2^51", 0, () -> Samples.steep(Samples.row(5125, 101, 8101, 268501, 1),
                Samples.row(8192, 8192, 8192, 4096, 1), 1).rounded(ALL, 5));
        int[] limit = {8192, 8192, 8192, 8192, 1024};
        Checks.answers("-1 and 1 / 2^62", -1, () -> Samples.steep(ONES, limit, 1).rounded(ALL, 5));
        Checks.answers("1 less 1 / 2^62", 1, () -> Samples.steep(ONES, limit, -1).rounded(ALL, 5));
        int[] factors = {-15841, 151, 631, 23311, 1};
        Checks.answers("2^62", Samples.LIMIT, () -> Samples.steep(factors, ONES, -131072).rounded(ALL, 5));
        Checks.answers("-2^62", -Samples.LIMIT, () -> Samples.steep(factors, ONES, 131072).rounded(ALL, 5));
    }

    private static void total() throws IOException {
        Asked asked = (x, method, i, below) -> x.total(method, below);
        Sentences promise = Sentences.of("Promise 17:");
        promise.holds("The total, likewise.", () -> {
            ClaimTriangle x = Samples.insuredYears();
            x.latest(1);
            Checks.parts("ALL", 328, 1, below -> x.total(ALL, below));
            Checks.parts("LATEST", 340, 1, below -> x.total(LATEST, below));
            Checks.parts("EXPECTED", 925, 1, below -> x.total(EXPECTED, below));
            Checks.parts("BLEND", 25675, 94, below -> x.total(BLEND, below));
            failsLikewise(asked);
        });
        promise.holds("IllegalArgumentException: there is no such method.", () -> refusesMethods(3, asked));
        promise.end();
    }

    private static void marks() throws IOException {
        Asked asked = (x, method, i, below) -> x.marks(method);
        Sentences promise = Sentences.of("Promise 18:");
        promise.holds("How many rows have a reserve that is undefined,", () -> {
            Checks.answers("none", 0, () -> Samples.insuredYears().marks(ALL));
            Checks.answers("two", 2, () -> undefinedYears().marks(ALL));
            Checks.answers("two of LATEST", 2, () -> undefinedYears().marks(LATEST));
            Checks.answers("none of EXPECTED", 0, () -> undefinedYears().marks(EXPECTED));
            ClaimTriangle x = Samples.years();
            x.ratio(-1, 0, 1);
            Checks.answers("all of BLEND", 3, () -> x.marks(BLEND));
            x.hide(2);
            Checks.answers("all that are not hidden", 1, () -> x.marks(BLEND));
            ClaimTriangle empty = new ClaimTriangle();
            empty.build(0, 12, false, 6);
            Checks.answers("no entries, all rows but the first", 5, () -> empty.marks(LATEST));
        });
        promise.holds("and 10 times how many one that is too long.", () -> {
            Checks.answers("rows 4 and 5", 20, () -> longRows().marks(ALL));
            Checks.answers("of LATEST", 20, () -> longRows().marks(LATEST));
            Checks.answers("of BLEND row 5 alone, its way", 10, () -> longRows().marks(BLEND));
            Checks.answers("none of EXPECTED", 0, () -> longRows().marks(EXPECTED));
            ClaimTriangle x = longRows();
            x.leave(4, 1, true);
            Checks.answers("row 4, and row 5 undefined", 11, () -> x.marks(ALL));
            x.hide(1);
            Checks.answers("both are told of what is not hidden", 4, () -> x.marks(ALL));
            Checks.answers("an ultimate that goes, a reserve that does not", 10,
                    () -> Samples.steep(ONES, Samples.row(8192, 8192, 8192, 8192, 1024), 3).marks(ALL));
        });
        promise.holds("IllegalArgumentException: there is no such method.", () -> refusesMethods(3, asked));
        promise.end();
    }

    private static void deviation() throws IOException {
        Asked asked = (x, method, j, below) -> x.deviation(j, below);
        Sentences promise = Sentences.of("Promise 19:");
        promise.holds("A deviation, likewise.", () -> {
            Checks.parts("of factor 0", 2, 3, below -> Samples.years().deviation(0, below));
            Checks.refuses("undefined", Checks.UNDEFINED, Samples::years, x -> x.deviation(1, false));
            Checks.refuses("undefined, below", Checks.UNDEFINED, Samples::years, x -> x.deviation(1, true));
            Checks.refuses("too long", Checks.LONG, () -> Samples.alike(32769), x -> x.deviation(0, false));
            Checks.refuses("too long, below", Checks.LONG, () -> Samples.alike(32769), x -> x.deviation(0, true));
        });
        promise.holds("IllegalArgumentException: there is no such factor.", () -> {
            refusesPlaces(1, 0, 1, Samples::years, asked);
            refusesPlaces(1, 0, 3, Samples::busy, asked);
            refusesPlaces(1, 0, -1, ClaimTriangle::new, asked);
        });
        promise.end();
    }

    private static void error() throws IOException {
        Asked asked = (x, method, i, below) -> x.error(method, i, below);
        Sentences promise = Sentences.of("Promise 20:");
        promise.holds("An error of method 0 or 1, likewise.", () -> {
            ClaimTriangle x = Samples.cells(4, Samples.row(1, 2), Samples.row(1, 4, 5), Samples.row(3, 10));
            x.hide(1);
            x.latest(1);
            Checks.parts("ALL", -1, 1, below -> x.error(ALL, 2, below));
            Checks.parts("LATEST", 2, 1, below -> x.error(LATEST, 2, below));
            x.leave(1, 0, true);
            x.leave(0, 0, true);
            Checks.partsFail("undefined", Checks.UNDEFINED, below -> x.error(ALL, 2, below));
            Checks.partsFail("LATEST's", Checks.UNDEFINED, below -> x.error(LATEST, 2, below));
            Checks.parts("another row's factor is not", -1, 1, below -> x.error(ALL, 1, below));
        });
        promise.holds("IllegalArgumentException: there is no such method,", () -> refusesMethods(1, asked));
        promise.holds("or row that has one.", () -> {
            refusesPlaces(2, 0, 2, Samples::years, asked);
            refusesPlaces(2, 1, 4, Samples::busy, asked);
            refusesPlaces(2, 0, 0, ClaimTriangle::new, asked);
            refusesPlaces(2, 3, 2, AskingPromises::threeOfSixHidden, asked);
        });
        promise.end();
    }

    private static ClaimTriangle threeOfSixHidden() {
        ClaimTriangle x = Samples.busy();
        x.hide(3);
        return x;
    }

    private static void diagonal() throws IOException {
        Sentences promise = Sentences.of("Promise 21:");
        promise.holds("The sum over all cells i, j with i + j = d of what they are more than cell i, j - 1", () -> {
            ClaimTriangle x = Samples.years();
            Checks.answers("1", 250, () -> x.diagonal(1));
            Checks.answers("2", 450, () -> x.diagonal(2));
            x.leave(1, 0, true);
            Checks.answers("what is left out counts", 250, () -> x.diagonal(1));
            x.hide(1);
            Checks.answers("what is hidden changes nothing", 250, () -> x.diagonal(1));
            x.build(0, 12, true, 2);
            x.estimate(0, 0, 0, 70);
            x.estimate(0, 0, 20, 20);
            Checks.answers("an estimate that falls", 200, () -> x.diagonal(1));
        });
        promise.holds("(than 0 for j = 0).", () -> {
            ClaimTriangle x = Samples.cells(6, Samples.row(3), Samples.row(5), Samples.row(7), Samples.row(11),
                    Samples.row(13), Samples.row(-17));
            int[] due = {3, 5, 7, 11, 13, -17};
            for (int d = 0; d < 6; d++) {
                int asked = d;
                Checks.answers("row " + d + " begins", due[d], () -> x.diagonal(asked));
            }
        });
        promise.holds("IllegalArgumentException: d is not 0 .. n - 1.", () -> {
            for (int d : Edges.outside(0, 2)) {
                Checks.refuses(d + " of 3", Checks.BAD, Samples::years, x -> x.diagonal(d));
            }
            for (int d : Edges.outside(0, 4)) {
                Checks.refuses(d + " of 6, of which one is hidden", Checks.BAD, Samples::busy, x -> x.diagonal(d));
            }
            for (int d : Edges.outside(0, 0)) {
                Checks.refuses(d + " of 1", Checks.BAD, ClaimTriangle::new, x -> x.diagonal(d));
            }
        });
        promise.end();
    }

    private static void count() throws IOException {
        Sentences promise = Sentences.of("Promise 22:");
        promise.holds("Something: 0 how many entries there are,", () -> {
            Checks.answers("none", 0, () -> new ClaimTriangle().count(0));
            Checks.answers("a struck one too", 16, () -> Samples.busy().count(0));
            Checks.answers("sixty", 60, () -> Samples.full().count(0));
        });
        promise.holds("1 how many live,", () -> {
            Checks.answers("none", 0, () -> new ClaimTriangle().count(1));
            Checks.answers("not a struck one", 15, () -> Samples.busy().count(1));
            Checks.answers("sixty", 60, () -> Samples.full().count(1));
        });
        promise.holds("2 n (without what is hidden),", () -> {
            Checks.answers("one", 1, () -> new ClaimTriangle().count(2));
            Checks.answers("5 of 6", 5, () -> Samples.busy().count(2));
            Checks.answers("3 of 6", 3, () -> threeOfSixHidden().count(2));
        });
        promise.holds("3 how many periods are hidden,", () -> {
            Checks.answers("none", 0, () -> new ClaimTriangle().count(3));
            Checks.answers("one", 1, () -> Samples.busy().count(3));
            Checks.answers("three", 3, () -> threeOfSixHidden().count(3));
        });
        promise.holds("4 the sum of all living payments of the triangle's line.", AskingPromises::sumOfPayments);
        promise.holds("IllegalArgumentException: any other number.", () -> {
            for (int which : Edges.outside(0, 4)) {
                Checks.refuses("count " + which, Checks.BAD, Samples::busy, x -> x.count(which));
            }
        });
        promise.end();
    }

    private static void sumOfPayments() {
        ClaimTriangle x = new ClaimTriangle();
        Checks.answers("none", 0, () -> x.count(4));
        Checks.answers("59 of 60 entries", 59, () -> Samples.full().count(4));
        x.pay(0, 0, 0, 9999);
        x.pay(0, 71, 71, 1);
        x.pay(1, 0, 0, -9999);
        x.estimate(0, 0, 0, 500);
        Checks.answers("beyond the triangle too", 10000, () -> x.count(4));
        x.build(0, 1, true, 6);
        x.hide(5);
        Checks.answers("no estimates, nothing hidden", 10000, () -> x.count(4));
        x.strike(0);
        Checks.answers("those that live", 1, () -> x.count(4));
        x.build(1, 1, true, 1);
        Checks.answers("of the other line", -9999, () -> x.count(4));
    }
}
