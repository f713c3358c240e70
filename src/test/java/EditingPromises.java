import java.io.IOException;

/** Promises 1 to 12: what makes and changes entries, terms and the triangle. */
final class EditingPromises {
    private static final int ALL = Samples.ALL;
    private static final int LATEST = Samples.LATEST;
    private static final int EXPECTED = Samples.EXPECTED;

    private EditingPromises() {
    }

    static void check() throws IOException {
        newObject();
        pay();
        estimate();
        strike();
        move();
        premium();
        ratio();
        build();
        cell();
        leave();
        latest();
        hide();
    }

    private static void newObject() throws IOException {
        Sentences promise = Sentences.of("Promise 1:");
        promise.holds("No entries, premiums 0, ratio and tail 1, the first triangle.", EditingPromises::firstState);
        promise.end();
    }

    private static void firstState() {
        ClaimTriangle x = new ClaimTriangle();
        int[] counts = {0, 0, 1, 0, 0};
        for (int which = 0; which < 5; which++) {
            int asked = which;
            Checks.answers("count " + which, counts[which], () -> x.count(asked));
        }
        Checks.answers("the cell", 0, () -> x.cell(0, 0));
        Checks.fails("no entry to strike", Checks.BAD, () -> x.strike(0));
        Checks.failsDoing("none to move", Checks.BAD, () -> x.move(0, 0, 0));
        Checks.answers("the diagonal", 0, () -> x.diagonal(0));
        for (int method = 0; method < 4; method++) {
            int asked = method;
            Checks.parts("method " + method, 0, 1, below -> x.ultimate(asked, 0, below));
            Checks.parts("its total", 0, 1, below -> x.total(asked, below));
            Checks.answers("its marks", 0, () -> x.marks(asked));
            Checks.answers("rounded", 0, () -> x.rounded(asked, 0));
        }
        Checks.partsFail("no factor", Checks.BAD, below -> x.factor(ALL, 0, below));
        Checks.partsFail("no deviation", Checks.BAD, below -> x.deviation(0, below));
        Checks.parts("an error", 0, 1, below -> x.error(ALL, 0, below));
        x.pay(0, 11, 11, 3);
        Checks.parts("the tail", 3, 1, below -> x.ultimate(LATEST, 0, below));
        for (int line = 0; line < 2; line++) {
            x.build(line, 12, false, 6);
            Checks.parts("premiums of line " + line, -x.cell(0, 5), 1, below -> x.total(EXPECTED, below));
            x.premium(line, 0, 5);
            Checks.parts("the ratio of line " + line, 5, 1, below -> x.ultimate(EXPECTED, 0, below));
        }
    }

    private static void pay() throws IOException {
        Sentences promise = Sentences.of("Promise 2:");
        promise.holds("A payment: its number.", () -> {
            ClaimTriangle x = Samples.years();
            Checks.answers("behind the others", 6, () -> x.pay(0, 0, 0, 7));
            Checks.answers("it counts", 107, () -> x.cell(0, 0));
            Checks.answers("the next one", 7, () -> x.pay(1, 71, 71, -9999));
        });
        promise.holds("IllegalArgumentException: there is no such line", () -> {
            for (int line : Edges.outside(0, 1)) {
                Checks.refuses("line " + line, Checks.BAD, Samples::busy, x -> x.pay(line, 0, 0, 1));
                Checks.refuses("line " + line + ", full", Checks.BAD, Samples::full, x -> x.pay(line, 0, 0, 1));
            }
        });
        promise.holds("or month,", () -> {
            for (int month : Edges.outside(0, 71)) {
                Checks.refuses("month " + month, Checks.BAD, Samples::busy, x -> x.pay(0, 0, month, 1));
                Checks.refuses("origin " + month, Checks.BAD, Samples::busy, x -> x.pay(0, month, 71, 1));
                Checks.refuses("both " + month, Checks.BAD, Samples::busy, x -> x.pay(0, month, month, 1));
                Checks.refuses("both " + month + ", full", Checks.BAD, Samples::full, x -> x.pay(0, month, month, 1));
            }
        });
        promise.holds("month is before origin,", () -> {
            Checks.refuses("by 1", Checks.BAD, Samples::busy, x -> x.pay(0, 1, 0, 1));
            Checks.refuses("by 71", Checks.BAD, Samples::busy, x -> x.pay(0, 71, 0, 1));
            Checks.refuses("full", Checks.BAD, Samples::full, x -> x.pay(0, 1, 0, 1));
            Checks.answers("alike", 16, () -> Samples.busy().pay(0, 1, 1, 1));
        });
        promise.holds("or the amount is none;", () -> {
            for (int amount : Edges.outside(-9999, 9999)) {
                Checks.refuses("amount " + amount, Checks.BAD, Samples::busy, x -> x.pay(0, 0, 0, amount));
                Checks.refuses("amount " + amount + ", full", Checks.BAD, Samples::full, x -> x.pay(0, 0, 0, amount));
            }
            for (int amount : Edges.inside(-9999, 9999)) {
                Checks.answers("amount " + amount, 16, () -> Samples.busy().pay(0, 0, 0, amount));
            }
        });
        promise.holds("IllegalStateException: there are 60 entries.", () -> {
            Checks.refuses("full", Checks.STATE, Samples::full, x -> x.pay(0, 0, 0, 1));
            Checks.refuses("full, some struck", Checks.STATE, EditingPromises::fullOfStruck, x -> x.pay(1, 71, 71, 0));
            Checks.answers("the last one", 59, () -> almostFull().pay(0, 0, 0, 1));
        });
        promise.end();
    }

    private static ClaimTriangle fullOfStruck() {
        ClaimTriangle x = Samples.full();
        x.strike(0);
        x.strike(59);
        return x;
    }

    private static ClaimTriangle almostFull() {
        ClaimTriangle x = new ClaimTriangle();
        for (int entry = 0; entry < 59; entry++) {
            x.estimate(1, 0, 0, 1);
        }
        return x;
    }

    private static void estimate() throws IOException {
        Sentences promise = Sentences.of("Promise 3:");
        promise.holds("An estimate: its number;", () -> {
            ClaimTriangle x = Samples.years();
            x.build(0, 12, true, 3);
            Checks.answers("behind the payments", 6, () -> x.estimate(0, 0, 0, 7));
            Checks.answers("it counts", 107, () -> x.cell(0, 0));
            Checks.answers("the next one", 7, () -> x.estimate(1, 71, 71, 9999));
        });
        promise.holds("likewise.", () -> {
            for (Checks.Maker maker : new Checks.Maker[] {Samples::busy, Samples::full}) {
                refusedEstimates(maker);
            }
            Checks.refuses("full", Checks.STATE, Samples::full, x -> x.estimate(0, 0, 0, 1));
            Checks.refuses("full, some struck", Checks.STATE, EditingPromises::fullOfStruck,
                    x -> x.estimate(1, 71, 71, 0));
            Checks.answers("the last one", 59, () -> almostFull().estimate(0, 71, 71, 0));
            Checks.answers("month and origin alike", 16, () -> Samples.busy().estimate(0, 1, 1, 1));
            for (int amount : Edges.inside(0, 9999)) {
                Checks.answers("amount " + amount, 16, () -> Samples.busy().estimate(0, 0, 0, amount));
            }
        });
        promise.end();
    }

    private static void refusedEstimates(Checks.Maker maker) {
        for (int line : Edges.outside(0, 1)) {
            Checks.refuses("line " + line, Checks.BAD, maker, x -> x.estimate(line, 0, 0, 1));
        }
        for (int month : Edges.outside(0, 71)) {
            Checks.refuses("month " + month, Checks.BAD, maker, x -> x.estimate(0, 0, month, 1));
            Checks.refuses("origin " + month, Checks.BAD, maker, x -> x.estimate(0, month, 71, 1));
            Checks.refuses("both " + month, Checks.BAD, maker, x -> x.estimate(0, month, month, 1));
        }
        for (int amount : Edges.outside(0, 9999)) {
            Checks.refuses("amount " + amount, Checks.BAD, maker, x -> x.estimate(0, 0, 0, amount));
        }
        Checks.refuses("a month before its origin", Checks.BAD, maker, x -> x.estimate(0, 1, 0, 1));
        Checks.refuses("71 months before", Checks.BAD, maker, x -> x.estimate(0, 71, 0, 1));
    }

    private static void strike() throws IOException {
        Sentences promise = Sentences.of("Promise 4:");
        promise.holds("An entry is struck: its amount.", () -> {
            for (int amount : new int[] {-9999, -1, 0, 1, 9999}) {
                ClaimTriangle x = new ClaimTriangle();
                x.pay(0, 0, 0, amount);
                Checks.answers("a payment's", amount, () -> x.strike(0));
                Checks.answers("it counts no more", 0, () -> x.count(4));
                Checks.answers("it lives no more", 0, () -> x.count(1));
            }
            ClaimTriangle y = Samples.full();
            Checks.answers("the last one's", 1, () -> y.strike(59));
            Checks.answers("the first one's", 1, () -> y.strike(0));
            Checks.answers("the others stay", 58, () -> y.cell(0, 0));
        });
        promise.holds("IllegalArgumentException: there is none such;", () -> {
            Checks.refuses("of no entries", Checks.BAD, ClaimTriangle::new, x -> x.strike(0));
            for (int entry : Edges.outside(0, 15)) {
                Checks.refuses("entry " + entry + " of 16", Checks.BAD, Samples::busy, x -> x.strike(entry));
            }
            for (int entry : Edges.outside(0, 59)) {
                Checks.refuses("entry " + entry + " of 60", Checks.BAD, Samples::full, x -> x.strike(entry));
            }
        });
        promise.holds("IllegalStateException: it is struck.", () -> {
            Checks.refuses("again", Checks.STATE, Samples::busy, x -> x.strike(2));
            Checks.refuses("the last of 60 again", Checks.STATE, EditingPromises::fullOfStruck, x -> x.strike(59));
        });
        promise.end();
    }

    private static void move() throws IOException {
        Sentences promise = Sentences.of("Promise 5:");
        promise.holds("An entry has another origin and month.", EditingPromises::moved);
        promise.holds("IllegalArgumentException: there is no such entry", () -> {
            Checks.refuses("of no entries", Checks.BAD, ClaimTriangle::new, x -> x.move(0, 0, 0));
            for (int entry : Edges.outside(0, 15)) {
                Checks.refuses("entry " + entry + " of 16", Checks.BAD, Samples::busy, x -> x.move(entry, 0, 0));
            }
            for (int entry : Edges.outside(0, 59)) {
                Checks.refuses("entry " + entry + " of 60", Checks.BAD, Samples::full, x -> x.move(entry, 0, 0));
            }
        });
        promise.holds("or month,", () -> {
            for (int month : Edges.outside(0, 71)) {
                for (int entry : new int[] {0, 2}) {
                    String what = (entry == 2 ? "of a struck entry, " : "") + month + " as ";
                    Checks.refuses(what + "month", Checks.BAD, Samples::busy, x -> x.move(entry, 0, month));
                    Checks.refuses(what + "origin", Checks.BAD, Samples::busy, x -> x.move(entry, month, 71));
                    Checks.refuses(what + "both", Checks.BAD, Samples::busy, x -> x.move(entry, month, month));
                }
            }
        });
        promise.holds("or month is before origin;", () -> {
            Checks.refuses("by 1", Checks.BAD, Samples::busy, x -> x.move(0, 1, 0));
            Checks.refuses("by 71", Checks.BAD, Samples::busy, x -> x.move(0, 71, 0));
            Checks.refuses("of a struck entry", Checks.BAD, Samples::busy, x -> x.move(2, 1, 0));
        });
        promise.holds("IllegalStateException: it is struck.", () -> {
            Checks.refuses("elsewhere", Checks.STATE, Samples::busy, x -> x.move(2, 0, 0));
            Checks.refuses("where it was", Checks.STATE, Samples::busy, x -> x.move(2, 0, 35));
            Checks.refuses("the last of 60", Checks.STATE, EditingPromises::fullOfStruck, x -> x.move(59, 0, 0));
        });
        promise.end();
    }

    private static void moved() {
        ClaimTriangle x = new ClaimTriangle();
        x.build(0, 12, true, 6);
        x.pay(0, 0, 0, 5);
        x.estimate(0, 0, 0, 70);
        x.move(0, 71, 71);
        Checks.answers("a payment, where from", 70, () -> x.cell(0, 5));
        Checks.answers("to the last month", 5, () -> x.cell(5, 0));
        x.move(1, 0, 71);
        Checks.answers("an estimate, not before", 0, () -> x.cell(0, 4));
        Checks.answers("in the last month", 70, () -> x.cell(0, 5));
        x.move(0, 0, 0);
        Checks.answers("and back", 5, () -> x.cell(0, 0));
        x.move(0, 0, 0);
        Checks.answers("where it is", 5, () -> x.cell(0, 0));
        Checks.answers("it keeps its amount", 5, () -> x.strike(0));
        Checks.answers("no entry is new", 2, () -> x.count(0));
    }

    private static void premium() throws IOException {
        Sentences promise = Sentences.of("Promise 6:");
        promise.holds("The premium of an origin.", () -> {
            ClaimTriangle x = new ClaimTriangle();
            x.build(1, 1, false, 6);
            x.premium(1, 3, 9999);
            x.premium(0, 3, 17);
            Checks.parts("the greatest", 9999, 1, below -> x.ultimate(EXPECTED, 3, below));
            Checks.parts("of that origin alone", 0, 1, below -> x.ultimate(EXPECTED, 2, below));
            x.premium(1, 3, 4);
            Checks.parts("another in its stead", 4, 1, below -> x.ultimate(EXPECTED, 3, below));
            x.premium(1, 3, 0);
            Checks.parts("none again", 0, 1, below -> x.ultimate(EXPECTED, 3, below));
        });
        promise.holds("IllegalArgumentException: there is no such line", () -> {
            for (int line : Edges.outside(0, 1)) {
                Checks.refuses("line " + line, Checks.BAD, Samples::busy, x -> x.premium(line, 0, 1));
            }
        });
        promise.holds("or month,", () -> {
            for (int month : Edges.outside(0, 71)) {
                Checks.refuses("line 0, month " + month, Checks.BAD, Samples::busy, x -> x.premium(0, month, 1));
                Checks.refuses("line 1, month " + month, Checks.BAD, Samples::busy, x -> x.premium(1, month, 1));
            }
        });
        promise.holds("or it is not 0 .. 9999.", () -> {
            for (int amount : Edges.outside(0, 9999)) {
                Checks.refuses("amount " + amount, Checks.BAD, Samples::busy, x -> x.premium(0, 0, amount));
            }
        });
        promise.end();
    }

    private static void ratio() throws IOException {
        Sentences promise = Sentences.of("Promise 7:");
        promise.holds("The ratio of a line, or (line -1) the tail.", EditingPromises::ratios);
        promise.holds("IllegalArgumentException: there is no such line,", () -> {
            for (int line : Edges.outside(-1, 1)) {
                Checks.refuses("line " + line, Checks.BAD, Samples::busy, x -> x.ratio(line, 1, 1));
            }
        });
        promise.holds("above is not 0 .. 9999,", () -> {
            for (int above : Edges.outside(0, 9999)) {
                for (int line = -1; line <= 1; line++) {
                    int asked = line;
                    Checks.refuses("line " + line + ", above " + above, Checks.BAD, Samples::busy,
                            x -> x.ratio(asked, above, 1));
                }
            }
        });
        promise.holds("or below not 1 .. 9999.", () -> {
            for (int below : Edges.outside(1, 9999)) {
                for (int line = -1; line <= 1; line++) {
                    int asked = line;
                    Checks.refuses("line " + line + ", below " + below, Checks.BAD, Samples::busy,
                            x -> x.ratio(asked, 1, below));
                    Checks.refuses("line " + line + ", 0 by " + below, Checks.BAD, Samples::busy,
                            x -> x.ratio(asked, 0, below));
                }
            }
        });
        promise.end();
    }

    private static void ratios() {
        ClaimTriangle x = Samples.tailed(1, 1, 1);
        x.premium(0, 0, 1);
        x.premium(1, 0, 1);
        x.ratio(0, 9999, 1);
        x.ratio(1, 1, 9999);
        x.ratio(-1, 9999, 9998);
        Checks.parts("of line 0", 9999, 1, below -> x.ultimate(EXPECTED, 0, below));
        Checks.parts("the tail", 9999, 9998, below -> x.ultimate(ALL, 0, below));
        x.ratio(-1, 0, 9999);
        Checks.parts("a tail of 0", 0, 1, below -> x.ultimate(LATEST, 0, below));
        x.build(1, 12, false, 1);
        Checks.parts("of line 1", 1, 9999, below -> x.ultimate(EXPECTED, 0, below));
        x.pay(1, 0, 0, 3);
        Checks.parts("the tail is of both lines", 0, 1, below -> x.ultimate(ALL, 0, below));
        x.ratio(1, 9999, 9999);
        Checks.parts("another in its stead", 1, 1, below -> x.ultimate(EXPECTED, 0, below));
    }

    private static void build() throws IOException {
        Sentences promise = Sentences.of("Promise 8:");
        promise.holds("Another triangle, with nothing left out or hidden.", EditingPromises::rebuilt);
        promise.holds("IllegalArgumentException: there is no such line,", () -> {
            for (int line : Edges.outside(0, 1)) {
                Checks.refuses("line " + line, Checks.BAD, Samples::busy, x -> x.build(line, 12, false, 6));
            }
        });
        promise.holds("step is not 1 .. 12,", () -> {
            for (int step : Edges.outside(1, 12)) {
                Checks.refuses("step " + step, Checks.BAD, Samples::busy, x -> x.build(0, step, false, 6));
            }
            for (int step : Edges.inside(1, 12)) {
                ClaimTriangle x = new ClaimTriangle();
                x.pay(0, 0, step - 1, 3);
                x.pay(0, 0, step, 4);
                x.build(0, step, false, 1);
                Checks.answers("step " + step, 3, () -> x.cell(0, 0));
            }
        });
        promise.holds("or size not 1 .. 6.", () -> {
            for (int size : Edges.outside(1, 6)) {
                Checks.refuses("size " + size, Checks.BAD, Samples::busy, x -> x.build(0, 12, false, size));
            }
            for (int size : Edges.inside(1, 6)) {
                ClaimTriangle x = Samples.busy();
                x.build(0, 12, false, size);
                Checks.answers("size " + size, size, () -> x.count(2));
            }
        });
        promise.end();
    }

    private static void rebuilt() {
        ClaimTriangle x = Samples.years();
        x.leave(0, 0, true);
        x.leave(2, 0, true);
        x.hide(2);
        x.build(0, 12, false, 3);
        Checks.answers("nothing is hidden", 0, () -> x.count(3));
        Checks.answers("all periods are there", 3, () -> x.count(2));
        Checks.parts("nothing is left out", 47, 30, below -> x.factor(ALL, 0, below));
        Checks.answers("none at all", 0, () -> x.leave(1, 0, false));
        x.leave(0, 2, true);
        x.build(0, 12, false, 1);
        x.build(0, 12, false, 6);
        Checks.answers("nor after a small one", 1, () -> x.leave(5, 0, true));
        x.build(1, 12, true, 6);
        Checks.answers("of the other line", 0, () -> x.cell(0, 5));
        x.build(0, 1, false, 1);
        Checks.answers("the least", 100, () -> x.cell(0, 0));
    }

    private static void cell() throws IOException {
        Sentences promise = Sentences.of("Promise 9:");
        promise.holds("A cell.", () -> {
            int[][] due = {{100, 150, 180}, {200, 320}, {300}};
            ClaimTriangle x = Samples.years();
            for (int i = 0; i < 3; i++) {
                for (int j = 0; i + j < 3; j++) {
                    int row = i;
                    int column = j;
                    Checks.answers(i + ", " + j, due[i][j], () -> x.cell(row, column));
                }
            }
            ClaimTriangle least = new ClaimTriangle();
            ClaimTriangle greatest = new ClaimTriangle();
            for (int entry = 0; entry < 60; entry++) {
                least.pay(0, 0, 0, -9999);
                greatest.pay(0, 0, 0, 9999);
            }
            Checks.answers("the least", -599940, () -> least.cell(0, 0));
            Checks.answers("the greatest", 599940, () -> greatest.cell(0, 0));
        });
        promise.holds("IllegalArgumentException: there is none such", () -> {
            for (int at : Edges.outside(0, 2)) {
                Checks.refuses("row " + at, Checks.BAD, Samples::years, x -> x.cell(at, 0));
                Checks.refuses("column " + at, Checks.BAD, Samples::years, x -> x.cell(0, at));
                Checks.refuses("both " + at, Checks.BAD, Samples::years, x -> x.cell(at, at));
            }
            Checks.refuses("1, 2", Checks.BAD, Samples::years, x -> x.cell(1, 2));
            Checks.refuses("2, 1", Checks.BAD, Samples::years, x -> x.cell(2, 1));
            Checks.refuses("4, -2", Checks.BAD, Samples::years, x -> x.cell(4, -2));
            Checks.refuses("-2, 4", Checks.BAD, Samples::years, x -> x.cell(-2, 4));
        });
        promise.holds("(or it is hidden).", () -> {
            for (int k = 0; k < 6; k++) {
                ClaimTriangle x = new ClaimTriangle();
                x.build(0, 12, false, 6);
                x.hide(k);
                cellsWithHidden(x, k);
            }
        });
        promise.end();
    }

    private static void cellsWithHidden(ClaimTriangle x, int k) {
        for (int i = 0; i < 6; i++) {
            for (int j = 0; i + j < 6; j++) {
                int row = i;
                int column = j;
                Checks.same(i + ", " + j + " with " + k + " hidden", i + j < 6 - k ? "0" : Checks.BAD,
                        Checks.outcome(() -> x.cell(row, column)));
            }
        }
    }

    private static void leave() throws IOException {
        Sentences promise = Sentences.of("Promise 10:");
        promise.holds("A cell is left out, or taken in again:", () -> {
            ClaimTriangle x = Samples.years();
            x.leave(0, 0, true);
            Checks.parts("out", 8, 5, below -> x.factor(ALL, 0, below));
            x.leave(0, 0, true);
            Checks.parts("out already", 8, 5, below -> x.factor(ALL, 0, below));
            x.leave(0, 0, false);
            Checks.parts("in", 47, 30, below -> x.factor(ALL, 0, below));
            x.leave(0, 0, false);
            Checks.parts("in already", 47, 30, below -> x.factor(ALL, 0, below));
        });
        promise.holds("how many are left out (of all n periods).", EditingPromises::howManyLeftOut);
        promise.holds("IllegalArgumentException: there is none such", () -> {
            for (boolean out : new boolean[] {false, true}) {
                for (int at : Edges.outside(0, 2)) {
                    Checks.refuses("row " + at, Checks.BAD, Samples::years, x -> x.leave(at, 0, out));
                    Checks.refuses("column " + at, Checks.BAD, Samples::years, x -> x.leave(0, at, out));
                    Checks.refuses("both " + at, Checks.BAD, Samples::years, x -> x.leave(at, at, out));
                }
                Checks.refuses("1, 2", Checks.BAD, Samples::years, x -> x.leave(1, 2, out));
                Checks.refuses("2, 1", Checks.BAD, Samples::years, x -> x.leave(2, 1, out));
                Checks.refuses("5, 1 while some are hidden", Checks.BAD, Samples::busy, x -> x.leave(5, 1, out));
            }
        });
        promise.holds("(hidden ones are).", () -> {
            ClaimTriangle x = Samples.years();
            x.hide(2);
            Checks.answers("a hidden row", 1, () -> x.leave(2, 0, true));
            Checks.answers("a hidden column", 2, () -> x.leave(0, 2, true));
            Checks.answers("the last of a row", 3, () -> x.leave(1, 1, true));
            Checks.answers("taken in again", 2, () -> x.leave(2, 0, false));
            x.hide(0);
            Checks.parts("it is left out then", 3, 2, below -> x.factor(ALL, 0, below));
            Checks.partsFail("and so is the other", Checks.UNDEFINED, below -> x.factor(ALL, 1, below));
        });
        promise.end();
    }

    private static void howManyLeftOut() {
        ClaimTriangle x = new ClaimTriangle();
        x.build(0, 12, false, 6);
        Checks.answers("none", 0, () -> x.leave(0, 0, false));
        int due = 0;
        for (int i = 0; i < 6; i++) {
            for (int j = 0; i + j < 6; j++) {
                int row = i;
                int column = j;
                due++;
                Checks.answers("out " + i + ", " + j, due, () -> x.leave(row, column, true));
                Checks.answers("again", due, () -> x.leave(row, column, true));
            }
        }
        x.hide(5);
        Checks.answers("all, the hidden ones too", 21, () -> x.leave(0, 0, true));
        Checks.answers("one less", 20, () -> x.leave(0, 0, false));
        Checks.answers("the same", 20, () -> x.leave(0, 0, false));
    }

    private static void latest() throws IOException {
        Sentences promise = Sentences.of("Promise 11:");
        promise.holds("r of LATEST.", () -> {
            ClaimTriangle x = Samples.cells(4, Samples.row(1, 2), Samples.row(1, 3), Samples.row(1, 5));
            x.latest(1);
            Checks.parts("1", 5, 1, below -> x.factor(LATEST, 0, below));
            x.latest(2);
            Checks.parts("2", 4, 1, below -> x.factor(LATEST, 0, below));
            x.latest(6);
            Checks.parts("6", 10, 3, below -> x.factor(LATEST, 0, below));
            x.latest(1);
            Checks.parts("not of ALL", 10, 3, below -> x.factor(ALL, 0, below));
            x.build(0, 1, false, 4);
            Checks.parts("of another triangle too", 5, 1, below -> x.factor(LATEST, 0, below));
        });
        promise.holds("IllegalArgumentException: it is not 1 .. 6.", () -> {
            for (int r : Edges.outside(1, 6)) {
                Checks.refuses("r " + r, Checks.BAD, Samples::busy, x -> x.latest(r));
            }
        });
        promise.end();
    }

    private static void hide() throws IOException {
        Sentences promise = Sentences.of("Promise 12:");
        promise.holds("The k latest periods are hidden", () -> {
            ClaimTriangle x = Samples.years();
            x.hide(1);
            Checks.parts("row 0's latest", 150, 1, below -> x.ultimate(ALL, 0, below));
            Checks.fails("row 2", Checks.BAD, () -> x.cell(2, 0));
            Checks.answers("how many", 1, () -> x.count(3));
            x.hide(0);
            Checks.answers("none", 300, () -> x.cell(2, 0));
        });
        promise.holds("(none before):", () -> {
            ClaimTriangle x = Samples.years();
            Checks.answers("two", 1, () -> x.hide(2));
            Checks.answers("two again", 1, () -> x.hide(2));
            Checks.answers("one in their stead", 2, () -> x.hide(1));
            Checks.answers("two in its stead", 1, () -> x.hide(2));
            Checks.answers("none", 3, () -> x.hide(0));
        });
        promise.holds("how many are left.", () -> {
            for (int size = 1; size <= 6; size++) {
                ClaimTriangle x = new ClaimTriangle();
                x.build(0, 12, false, size);
                for (int k = 0; k < size; k++) {
                    int asked = k;
                    Checks.answers(k + " of " + size, size - k, () -> x.hide(asked));
                    Checks.answers("n then", size - k, () -> x.count(2));
                }
            }
        });
        promise.holds("IllegalArgumentException: k is not 0 .. n - 1.", () -> {
            Checks.refuses("1 of 1", Checks.BAD, ClaimTriangle::new, x -> x.hide(1));
            for (int k : Edges.outside(0, 2)) {
                Checks.refuses(k + " of 3", Checks.BAD, Samples::years, x -> x.hide(k));
            }
            for (int k : Edges.outside(0, 5)) {
                Checks.refuses(k + " of 6, of which one is hidden", Checks.BAD, Samples::busy, x -> x.hide(k));
            }
            Checks.answers("5 of 6, of which one is hidden", 1, () -> Samples.busy().hide(5));
        });
        promise.end();
    }
}
