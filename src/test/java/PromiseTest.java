/** The promises one by one, in runs of calls that build on one another. */
public final class PromiseTest {
    private static final int ALL = Samples.ALL;
    private static final int LATEST = Samples.LATEST;
    private static final int EXPECTED = Samples.EXPECTED;
    private static final int BLEND = Samples.BLEND;
    private static final long LIMIT = Samples.LIMIT;

    public static void main(String[] args) {
        newObject();
        pay();
        estimate();
        strike();
        move();
        premium();
        ratio();
        build();
        cell();
        incurredCell();
        leave();
        latest();
        hide();
        factor();
        ultimate();
        reserve();
        rounded();
        total();
        marks();
        deviation();
        error();
        diagonal();
        count();
        readmeExample();
        Checks.end();
    }

    private static void newObject() {
        ClaimTriangle x = new ClaimTriangle();
        Checks.answers("1: no entries", 0, () -> x.count(0));
        Checks.answers("1: none live", 0, () -> x.count(1));
        Checks.answers("1: n is 1", 1, () -> x.count(2));
        Checks.answers("1: nothing is hidden", 0, () -> x.count(3));
        Checks.answers("1: nothing is paid", 0, () -> x.count(4));
        Checks.answers("1: the cell", 0, () -> x.cell(0, 0));
        Checks.fails("1: no second cell", Checks.BAD, () -> x.cell(0, 1));
        Checks.parts("1: premiums are 0", 0, 1, below -> x.ultimate(EXPECTED, 0, below));
        x.pay(0, 11, 11, 7);
        x.pay(0, 12, 12, 100);
        x.pay(1, 0, 0, 1000);
        x.estimate(0, 0, 0, 500);
        Checks.answers("1: line 0, step 12, paid", 7, () -> x.cell(0, 0));
        Checks.parts("1: the tail is 1", 7, 1, below -> x.ultimate(ALL, 0, below));
        x.premium(0, 0, 31);
        x.premium(1, 0, 37);
        Checks.parts("1: the ratio of line 0 is 1", 31, 1, below -> x.ultimate(EXPECTED, 0, below));
        x.build(1, 12, false, 1);
        Checks.parts("1: the ratio of line 1 is 1", 37, 1, below -> x.ultimate(EXPECTED, 0, below));
        Checks.answers("1: another object is another", 0, () -> new ClaimTriangle().count(0));
        latestIsThreeAtFirst();
    }

    private static void latestIsThreeAtFirst() {
        ClaimTriangle x = new ClaimTriangle();
        x.build(0, 1, false, 6);
        for (int row = 0; row < 5; row++) {
            x.pay(0, row, row, 1);
            x.pay(0, row, row + 1, 1 << row);
        }
        Checks.parts("1: r is 3", 3 + 4 + 8 + 16, 3, below -> x.factor(LATEST, 0, below));
    }

    private static void pay() {
        ClaimTriangle x = new ClaimTriangle();
        Checks.answers("2: the first number", 0, () -> x.pay(0, 0, 0, -9999));
        Checks.answers("2: the second number", 1, () -> x.pay(1, 71, 71, 9999));
        Checks.answers("2: an amount of 0", 2, () -> x.pay(0, 0, 71, 0));
        Checks.fails("2: line -1", Checks.BAD, () -> x.pay(-1, 0, 0, 1));
        Checks.fails("2: line 2", Checks.BAD, () -> x.pay(2, 0, 0, 1));
        Checks.fails("2: origin -1", Checks.BAD, () -> x.pay(0, -1, 0, 1));
        Checks.fails("2: month 72", Checks.BAD, () -> x.pay(0, 0, 72, 1));
        Checks.fails("2: origin and month 72", Checks.BAD, () -> x.pay(0, 72, 72, 1));
        Checks.fails("2: month before origin", Checks.BAD, () -> x.pay(0, 6, 5, 1));
        Checks.fails("2: -10000", Checks.BAD, () -> x.pay(0, 0, 0, -10000));
        Checks.fails("2: 10000", Checks.BAD, () -> x.pay(0, 0, 0, 10000));
        Checks.fails("2: the least of all", Checks.BAD,
                () -> x.pay(Integer.MIN_VALUE, Integer.MIN_VALUE, Integer.MIN_VALUE, Integer.MIN_VALUE));
        Checks.answers("2: what failed made nothing", 3, () -> x.count(0));
        Checks.answers("2: it counts", -9999, () -> x.cell(0, 0));
        sixtyEntries();
    }

    private static void sixtyEntries() {
        ClaimTriangle x = new ClaimTriangle();
        for (int entry = 0; entry < 59; entry++) {
            x.pay(0, 0, 0, 1);
        }
        Checks.answers("2: the last entry", 59, () -> x.estimate(0, 0, 0, 1));
        Checks.fails("2: one too many", Checks.STATE, () -> x.pay(0, 0, 0, 1));
        Checks.fails("3: one too many", Checks.STATE, () -> x.estimate(0, 0, 0, 1));
        x.strike(0);
        Checks.fails("2: a struck one leaves no room", Checks.STATE, () -> x.pay(0, 0, 0, 1));
        Checks.fails("2: a wrong argument comes first", Checks.BAD, () -> x.pay(0, 0, 0, 10000));
        Checks.fails("3: a wrong argument comes first", Checks.BAD, () -> x.estimate(0, 1, 0, 1));
        Checks.answers("2: sixty stay", 60, () -> x.count(0));
        Checks.answers("2: all payments but the struck one count", 58, () -> x.cell(0, 0));
    }

    private static void estimate() {
        ClaimTriangle x = new ClaimTriangle();
        x.build(1, 12, true, 1);
        x.pay(1, 0, 0, -20);
        Checks.answers("3: numbers go on", 1, () -> x.estimate(1, 0, 0, 9999));
        Checks.answers("3: it counts", 9979, () -> x.cell(0, 0));
        Checks.answers("3: 0", 2, () -> x.estimate(1, 71, 71, 0));
        Checks.fails("3: line -1", Checks.BAD, () -> x.estimate(-1, 0, 0, 1));
        Checks.fails("3: line 2", Checks.BAD, () -> x.estimate(2, 0, 0, 1));
        Checks.fails("3: origin -1", Checks.BAD, () -> x.estimate(0, -1, 0, 1));
        Checks.fails("3: month 72", Checks.BAD, () -> x.estimate(0, 0, 72, 1));
        Checks.fails("3: month before origin", Checks.BAD, () -> x.estimate(0, 6, 5, 1));
        Checks.fails("3: -1", Checks.BAD, () -> x.estimate(0, 0, 0, -1));
        Checks.fails("3: 10000", Checks.BAD, () -> x.estimate(0, 0, 0, 10000));
        Checks.answers("3: what failed made nothing", 3, () -> x.count(0));
    }

    private static void strike() {
        ClaimTriangle x = new ClaimTriangle();
        Checks.fails("4: no entries", Checks.BAD, () -> x.strike(0));
        x.pay(0, 0, 0, -5);
        x.pay(0, 0, 0, 8);
        Checks.answers("4: the amount", -5, () -> x.strike(0));
        Checks.answers("4: it counts no more", 8, () -> x.cell(0, 0));
        Checks.fails("4: again", Checks.STATE, () -> x.strike(0));
        Checks.fails("4: -1", Checks.BAD, () -> x.strike(-1));
        Checks.fails("4: 2", Checks.BAD, () -> x.strike(2));
        Checks.fails("4: 60", Checks.BAD, () -> x.strike(60));
        Checks.answers("4: the other lives", 1, () -> x.count(1));
        Checks.answers("4: the number is kept", 2, () -> x.pay(0, 0, 0, 1));
    }

    private static void move() {
        ClaimTriangle x = new ClaimTriangle();
        x.build(0, 12, false, 2);
        x.pay(0, 0, 0, 5);
        x.move(0, 12, 23);
        Checks.answers("5: not in the old row", 0, () -> x.cell(0, 1));
        Checks.answers("5: in the new row", 5, () -> x.cell(1, 0));
        x.move(0, 0, 12);
        Checks.answers("5: not before its month", 0, () -> x.cell(0, 0));
        Checks.answers("5: from its month on", 5, () -> x.cell(0, 1));
        x.move(0, 71, 71);
        Checks.answers("5: out of the triangle", 0, () -> x.cell(0, 1));
        Checks.failsDoing("5: entry -1", Checks.BAD, () -> x.move(-1, 0, 0));
        Checks.failsDoing("5: entry 1", Checks.BAD, () -> x.move(1, 0, 0));
        Checks.failsDoing("5: origin -1", Checks.BAD, () -> x.move(0, -1, 0));
        Checks.failsDoing("5: month 72", Checks.BAD, () -> x.move(0, 0, 72));
        Checks.failsDoing("5: month before origin", Checks.BAD, () -> x.move(0, 1, 0));
        Checks.answers("5: what failed moved nothing", 0, () -> x.cell(0, 1));
        x.strike(0);
        Checks.failsDoing("5: struck", Checks.STATE, () -> x.move(0, 0, 0));
        Checks.failsDoing("5: struck, with a wrong month", Checks.BAD, () -> x.move(0, 0, 72));
    }

    private static void premium() {
        ClaimTriangle x = new ClaimTriangle();
        x.premium(0, 0, 9999);
        x.premium(0, 71, 44);
        x.premium(0, 0, 55);
        x.build(0, 12, false, 6);
        Checks.parts("6: the newest premium of an origin counts", 55, 1, below -> x.ultimate(EXPECTED, 0, below));
        Checks.parts("6: the last origin", 44, 1, below -> x.ultimate(EXPECTED, 5, below));
        Checks.failsDoing("6: line -1", Checks.BAD, () -> x.premium(-1, 0, 1));
        Checks.failsDoing("6: line 2", Checks.BAD, () -> x.premium(2, 0, 1));
        Checks.failsDoing("6: origin -1", Checks.BAD, () -> x.premium(0, -1, 1));
        Checks.failsDoing("6: origin 72", Checks.BAD, () -> x.premium(0, 72, 1));
        Checks.failsDoing("6: -1", Checks.BAD, () -> x.premium(0, 0, -1));
        Checks.failsDoing("6: 10000", Checks.BAD, () -> x.premium(0, 0, 10000));
        x.premium(0, 0, 0);
        Checks.parts("6: 0 again", 0, 1, below -> x.ultimate(EXPECTED, 0, below));
    }

    private static void ratio() {
        ClaimTriangle x = new ClaimTriangle();
        x.pay(0, 0, 0, 10);
        x.premium(0, 0, 10);
        x.premium(1, 0, 10);
        x.ratio(0, 9999, 9998);
        Checks.parts("7: of line 0", 49995, 4999, below -> x.ultimate(EXPECTED, 0, below));
        x.ratio(0, 6, 4);
        x.ratio(1, 0, 9999);
        x.ratio(-1, 21, 14);
        Checks.parts("7: the tail", 15, 1, below -> x.ultimate(ALL, 0, below));
        Checks.parts("7: the tail of LATEST", 15, 1, below -> x.ultimate(LATEST, 0, below));
        Checks.parts("7: of line 0 again", 15, 1, below -> x.ultimate(EXPECTED, 0, below));
        x.build(1, 12, false, 1);
        Checks.parts("7: of line 1", 0, 1, below -> x.ultimate(EXPECTED, 0, below));
        Checks.failsDoing("7: line -2", Checks.BAD, () -> x.ratio(-2, 1, 1));
        Checks.failsDoing("7: line 2", Checks.BAD, () -> x.ratio(2, 1, 1));
        Checks.failsDoing("7: -1 above", Checks.BAD, () -> x.ratio(0, -1, 1));
        Checks.failsDoing("7: 10000 above", Checks.BAD, () -> x.ratio(0, 10000, 1));
        Checks.failsDoing("7: 0 below", Checks.BAD, () -> x.ratio(0, 1, 0));
        Checks.failsDoing("7: 10000 below", Checks.BAD, () -> x.ratio(-1, 1, 10000));
        x.build(0, 12, false, 1);
        Checks.parts("7: the tail outlives a build", 15, 1, below -> x.ultimate(ALL, 0, below));
    }

    private static void build() {
        ClaimTriangle x = Samples.years();
        x.leave(0, 0, true);
        x.leave(1, 1, true);
        x.hide(2);
        Checks.failsDoing("8: line -1", Checks.BAD, () -> x.build(-1, 12, false, 1));
        Checks.failsDoing("8: line 2", Checks.BAD, () -> x.build(2, 12, false, 1));
        Checks.failsDoing("8: step 0", Checks.BAD, () -> x.build(0, 0, false, 1));
        Checks.failsDoing("8: step 13", Checks.BAD, () -> x.build(0, 13, false, 1));
        Checks.failsDoing("8: size 0", Checks.BAD, () -> x.build(0, 12, false, 0));
        Checks.failsDoing("8: size 7", Checks.BAD, () -> x.build(0, 12, false, 7));
        Checks.answers("8: what failed built nothing", 2, () -> x.count(3));
        x.build(0, 12, false, 3);
        Checks.answers("8: nothing is hidden", 3, () -> x.count(2));
        Checks.answers("8: nothing is left out", 0, () -> x.leave(2, 0, false));
        x.build(1, 12, false, 3);
        Checks.answers("8: of the other line", 0, () -> x.cell(0, 2));
        x.build(0, 1, true, 6);
        Checks.answers("8: with months", 100, () -> x.cell(0, 5));
        x.build(0, 12, false, 6);
        Checks.answers("8: the greatest", 320, () -> x.cell(1, 4));
    }

    private static void cell() {
        ClaimTriangle x = Samples.years();
        Checks.answers("9: 0, 0", 100, () -> x.cell(0, 0));
        Checks.answers("9: 0, 1", 150, () -> x.cell(0, 1));
        Checks.answers("9: 0, 2", 180, () -> x.cell(0, 2));
        Checks.answers("9: 1, 0", 200, () -> x.cell(1, 0));
        Checks.answers("9: 1, 1", 320, () -> x.cell(1, 1));
        Checks.answers("9: 2, 0", 300, () -> x.cell(2, 0));
        Checks.fails("9: beyond the diagonal", Checks.BAD, () -> x.cell(2, 1));
        Checks.fails("9: row -1", Checks.BAD, () -> x.cell(-1, 0));
        Checks.fails("9: column -1", Checks.BAD, () -> x.cell(0, -1));
        Checks.fails("9: row 3", Checks.BAD, () -> x.cell(3, 0));
        Checks.fails("9: a sum that wraps round", Checks.BAD,
                () -> x.cell(Integer.MAX_VALUE, Integer.MAX_VALUE));
        Checks.fails("9: one that wraps to a small number", Checks.BAD, () -> x.cell(1, Integer.MAX_VALUE));
        x.leave(0, 1, true);
        Checks.answers("9: a cell that is left out is still one", 150, () -> x.cell(0, 1));
        x.pay(0, 5, 5, 1000);
        Checks.answers("9: it follows the entries", 1150, () -> x.cell(0, 1));
        x.hide(1);
        Checks.fails("9: hidden", Checks.BAD, () -> x.cell(0, 2));
        Checks.fails("9: a hidden row", Checks.BAD, () -> x.cell(2, 0));
        Checks.answers("9: not hidden", 200, () -> x.cell(1, 0));
    }

    private static void incurredCell() {
        ClaimTriangle x = new ClaimTriangle();
        x.build(0, 6, true, 3);
        x.pay(0, 0, 0, 1);
        x.estimate(0, 0, 5, 100);
        x.estimate(0, 0, 6, 300);
        x.estimate(0, 0, 6, 200);
        x.estimate(0, 5, 5, 10);
        x.estimate(0, 0, 18, 9999);
        x.estimate(1, 0, 17, 9999);
        Checks.answers("9: estimates of all origins", 111, () -> x.cell(0, 0));
        Checks.answers("9: the later ones, the last of several", 211, () -> x.cell(0, 1));
        Checks.answers("9: it stays", 211, () -> x.cell(0, 2));
        x.pay(0, 0, 17, 5);
        Checks.answers("9: a later payment is none", 216, () -> x.cell(0, 2));
        x.strike(3);
        Checks.answers("9: the one before comes back", 311, () -> x.cell(0, 1));
        x.strike(2);
        Checks.answers("9: and the one before that", 111, () -> x.cell(0, 1));
        x.move(1, 0, 11);
        Checks.answers("9: a moved estimate is not there yet", 11, () -> x.cell(0, 0));
        Checks.answers("9: then it is", 111, () -> x.cell(0, 1));
        x.move(5, 0, 11);
        Checks.answers("9: in one month the greatest number", 10010, () -> x.cell(0, 1));
        x.move(5, 0, 10);
        Checks.answers("9: in two the later month", 111, () -> x.cell(0, 1));
        x.move(5, 6, 11);
        Checks.answers("9: another origin, another row", 9999, () -> x.cell(1, 0));
        x.build(0, 6, false, 3);
        Checks.answers("9: paid ones have no estimates", 6, () -> x.cell(0, 2));
    }

    private static void leave() {
        ClaimTriangle x = Samples.years();
        Checks.answers("10: one", 1, () -> x.leave(0, 0, true));
        Checks.answers("10: the same again", 1, () -> x.leave(0, 0, true));
        Checks.parts("10: of a factor's part below", 8, 5, below -> x.factor(ALL, 0, below));
        Checks.answers("10: taken in again", 0, () -> x.leave(0, 0, false));
        Checks.answers("10: taken in that was not out", 0, () -> x.leave(0, 0, false));
        Checks.answers("10: another", 1, () -> x.leave(1, 1, true));
        Checks.parts("10: of a factor's part above", 3, 2, below -> x.factor(ALL, 0, below));
        Checks.parts("10: not of the ultimate", 384, 1, below -> x.ultimate(ALL, 1, below));
        x.hide(1);
        Checks.answers("10: a hidden one counts and can be left out", 2, () -> x.leave(2, 0, true));
        Checks.answers("10: a hidden one can be taken in", 1, () -> x.leave(2, 0, false));
        Checks.fails("10: none such", Checks.BAD, () -> x.leave(2, 1, true));
        Checks.fails("10: row -1", Checks.BAD, () -> x.leave(-1, 1, true));
        Checks.fails("10: column -1", Checks.BAD, () -> x.leave(1, -1, false));
        Checks.fails("10: row 3", Checks.BAD, () -> x.leave(3, 0, false));
        Checks.fails("10: one that wraps round", Checks.BAD, () -> x.leave(2, Integer.MAX_VALUE, true));
        x.hide(0);
        Checks.answers("10: it outlives hiding", 2, () -> x.leave(0, 2, true));
        Checks.partsFail("10: nothing is left of factor 1", Checks.UNDEFINED, below -> x.factor(ALL, 1, below));
    }

    private static void latest() {
        ClaimTriangle x = new ClaimTriangle();
        x.build(0, 1, false, 6);
        for (int row = 0; row < 5; row++) {
            x.pay(0, row, row, 1);
            x.pay(0, row, row + 1, 1 << row);
        }
        x.latest(1);
        Checks.parts("11: 1", 17, 1, below -> x.factor(LATEST, 0, below));
        Checks.parts("11: not of ALL", 36, 5, below -> x.factor(ALL, 0, below));
        x.latest(6);
        Checks.parts("11: more than there are", 36, 5, below -> x.factor(LATEST, 0, below));
        x.latest(2);
        Checks.parts("11: 2", 13, 1, below -> x.factor(LATEST, 0, below));
        x.leave(4, 0, true);
        Checks.parts("11: the greatest of those that are not left out", 7, 1, below -> x.factor(LATEST, 0, below));
        x.leave(2, 1, true);
        Checks.parts("11: nor by the cell above", 6, 1, below -> x.factor(LATEST, 0, below));
        Checks.failsDoing("11: 0", Checks.BAD, () -> x.latest(0));
        Checks.failsDoing("11: 7", Checks.BAD, () -> x.latest(7));
        x.build(0, 1, false, 6);
        Checks.parts("11: it outlives a build", 13, 1, below -> x.factor(LATEST, 0, below));
        x.hide(2);
        Checks.parts("11: the greatest that are not hidden", 4, 1, below -> x.factor(LATEST, 0, below));
    }

    private static void hide() {
        ClaimTriangle x = Samples.insuredYears();
        Checks.answers("12: one", 2, () -> x.hide(1));
        Checks.parts("12: factors", 3, 2, below -> x.factor(ALL, 0, below));
        Checks.parts("12: latest cells", 150, 1, below -> x.ultimate(ALL, 0, below));
        Checks.parts("12: ultimates", 300, 1, below -> x.ultimate(ALL, 1, below));
        Checks.parts("12: totals", 100, 1, below -> x.total(ALL, below));
        Checks.partsFail("12: the last row has none", Checks.BAD, below -> x.ultimate(EXPECTED, 2, below));
        Checks.answers("12: two in its stead", 1, () -> x.hide(2));
        Checks.answers("12: one again", 2, () -> x.hide(1));
        Checks.fails("12: all", Checks.BAD, () -> x.hide(3));
        Checks.fails("12: -1", Checks.BAD, () -> x.hide(-1));
        Checks.answers("12: what failed hid nothing", 1, () -> x.count(3));
        x.pay(0, 24, 35, 5);
        Checks.answers("12: none", 3, () -> x.hide(0));
        Checks.answers("12: what was hidden followed the entries", 305, () -> x.cell(2, 0));
    }

    private static void factor() {
        ClaimTriangle x = Samples.years();
        Checks.parts("13: 0 of ALL", 47, 30, below -> x.factor(ALL, 0, below));
        Checks.parts("13: 1 of ALL", 6, 5, below -> x.factor(ALL, 1, below));
        Checks.partsFail("13: factor 2", Checks.BAD, below -> x.factor(ALL, 2, below));
        Checks.partsFail("13: factor -1", Checks.BAD, below -> x.factor(ALL, -1, below));
        Checks.partsFail("13: of EXPECTED", Checks.BAD, below -> x.factor(EXPECTED, 0, below));
        Checks.partsFail("13: of BLEND", Checks.BAD, below -> x.factor(BLEND, 0, below));
        Checks.partsFail("13: of -1", Checks.BAD, below -> x.factor(-1, 0, below));
        x.pay(0, 0, 0, -300);
        Checks.partsFail("13: a sum below of 0", Checks.UNDEFINED, below -> x.factor(ALL, 0, below));
        x.pay(0, 0, 0, -10);
        Checks.parts("13: a sum below under 0", -16, 1, below -> x.factor(ALL, 0, below));
        x.latest(1);
        Checks.parts("13: 0 of LATEST", 8, 5, below -> x.factor(LATEST, 0, below));
        x.pay(0, 0, 30, 130);
        Checks.parts("13: nothing is 0 / 1", 0, 1, below -> emptied(x).factor(ALL, 1, below));
    }

    /** Brings cell 0, 2 of the triangle to 0. */
    private static ClaimTriangle emptied(ClaimTriangle x) {
        x.pay(0, 0, 24, -x.cell(0, 2));
        return x;
    }

    private static void ultimate() {
        ClaimTriangle x = Samples.insuredYears();
        Checks.parts("14: ALL 0", 180, 1, below -> x.ultimate(ALL, 0, below));
        Checks.parts("14: ALL 1", 384, 1, below -> x.ultimate(ALL, 1, below));
        Checks.parts("14: ALL 2", 564, 1, below -> x.ultimate(ALL, 2, below));
        x.latest(1);
        Checks.parts("14: LATEST 2", 576, 1, below -> x.ultimate(LATEST, 2, below));
        Checks.parts("14: EXPECTED 0", 900, 1, below -> x.ultimate(EXPECTED, 0, below));
        Checks.parts("14: EXPECTED 1", 375, 1, below -> x.ultimate(EXPECTED, 1, below));
        Checks.parts("14: EXPECTED 2", 450, 1, below -> x.ultimate(EXPECTED, 2, below));
        Checks.parts("14: BLEND 0", 180, 1, below -> x.ultimate(BLEND, 0, below));
        Checks.parts("14: BLEND 1", 765, 2, below -> x.ultimate(BLEND, 1, below));
        Checks.parts("14: BLEND 2", 24000, 47, below -> x.ultimate(BLEND, 2, below));
        Checks.partsFail("14: method -1", Checks.BAD, below -> x.ultimate(-1, 0, below));
        Checks.partsFail("14: method 4", Checks.BAD, below -> x.ultimate(4, 0, below));
        Checks.partsFail("14: row -1", Checks.BAD, below -> x.ultimate(ALL, -1, below));
        Checks.partsFail("14: row 3", Checks.BAD, below -> x.ultimate(ALL, 3, below));
        x.ratio(-1, 5, 3);
        Checks.parts("14: with a tail", 640, 1, below -> x.ultimate(ALL, 1, below));
        Checks.parts("14: BLEND with a tail", 1015, 2, below -> x.ultimate(BLEND, 1, below));
        x.pay(0, 0, 30, -360);
        Checks.parts("14: a way under 0", -640, 1, below -> x.ultimate(ALL, 1, below));
        Checks.parts("14: BLEND with a way under 0", 1765, 2, below -> x.ultimate(BLEND, 1, below));
        x.pay(0, 0, 30, 360);
        x.ratio(-1, 0, 1);
        Checks.parts("14: a tail of 0", 0, 1, below -> x.ultimate(ALL, 2, below));
        Checks.partsFail("14: BLEND with a way of 0", Checks.UNDEFINED, below -> x.ultimate(BLEND, 0, below));
        Checks.parts("14: EXPECTED has no way", 900, 1, below -> x.ultimate(EXPECTED, 0, below));
        x.leave(0, 1, true);
        x.ratio(-1, 1, 1);
        Checks.partsFail("14: undefined factor", Checks.UNDEFINED, below -> x.ultimate(ALL, 1, below));
        Checks.partsFail("14: LATEST's", Checks.UNDEFINED, below -> x.ultimate(LATEST, 2, below));
        Checks.partsFail("14: BLEND's", Checks.UNDEFINED, below -> x.ultimate(BLEND, 1, below));
        Checks.parts("14: row 0 needs none", 180, 1, below -> x.ultimate(ALL, 0, below));
    }

    private static void reserve() {
        ClaimTriangle x = Samples.insuredYears();
        Checks.parts("15: ALL 0", 0, 1, below -> x.reserve(ALL, 0, below));
        Checks.parts("15: ALL 1", 64, 1, below -> x.reserve(ALL, 1, below));
        Checks.parts("15: ALL 2", 264, 1, below -> x.reserve(ALL, 2, below));
        Checks.parts("15: EXPECTED 0", 720, 1, below -> x.reserve(EXPECTED, 0, below));
        Checks.parts("15: BLEND 1", 125, 2, below -> x.reserve(BLEND, 1, below));
        Checks.parts("15: BLEND 2", 9900, 47, below -> x.reserve(BLEND, 2, below));
        x.ratio(-1, 1, 7);
        Checks.parts("15: under 0", -1080, 7, below -> x.reserve(LATEST, 0, below));
        Checks.partsFail("15: method -1", Checks.BAD, below -> x.reserve(-1, 0, below));
        Checks.partsFail("15: method 4", Checks.BAD, below -> x.reserve(4, 0, below));
        Checks.partsFail("15: row -1", Checks.BAD, below -> x.reserve(ALL, -1, below));
        Checks.partsFail("15: row 3", Checks.BAD, below -> x.reserve(ALL, 3, below));
        x.leave(0, 2, true);
        Checks.partsFail("15: undefined", Checks.UNDEFINED, below -> x.reserve(ALL, 1, below));
    }

    private static void rounded() {
        Checks.answers("16: a half goes up", 63, () -> Samples.insuredYears().rounded(BLEND, 1));
        Checks.answers("16: 210 and 30 / 47", 211, () -> Samples.insuredYears().rounded(BLEND, 2));
        Checks.answers("16: whole", 264, () -> Samples.insuredYears().rounded(ALL, 2));
        Checks.answers("16: -5 / 2", -2, () -> Samples.tailed(5, 1, 2).rounded(ALL, 0));
        Checks.answers("16: 5 / 2", 3, () -> Samples.tailed(-5, 1, 2).rounded(ALL, 0));
        Checks.answers("16: -7 / 3", -2, () -> Samples.tailed(7, 2, 3).rounded(LATEST, 0));
        Checks.answers("16: -8 / 3", -3, () -> Samples.tailed(8, 2, 3).rounded(ALL, 0));
        Checks.answers("16: 7 / 3", 2, () -> Samples.tailed(7, 4, 3).rounded(ALL, 0));
        Checks.answers("16: -1 / 2", 0, () -> Samples.tailed(1, 1, 2).rounded(ALL, 0));
        Checks.fails("16: method 4", Checks.BAD, () -> Samples.years().rounded(4, 0));
        Checks.fails("16: method -1", Checks.BAD, () -> Samples.years().rounded(-1, 0));
        Checks.fails("16: row 3", Checks.BAD, () -> Samples.years().rounded(0, 3));
        Checks.fails("16: row -1", Checks.BAD, () -> Samples.years().rounded(0, -1));
        Checks.fails("16: undefined", Checks.UNDEFINED, () -> Samples.tailed(1, 0, 1).rounded(BLEND, 0));
        int[] tops = {8192, 8192, 8192, 8192, 1024};
        Checks.answers("16: a long one", LIMIT - 1, () -> Samples.steep(tops, Samples.ONES, 1).rounded(ALL, 5));
        Checks.fails("16: too long", Checks.LONG, () -> Samples.steep(tops, Samples.ONES, 2).rounded(ALL, 5));
    }

    private static void total() {
        ClaimTriangle x = Samples.insuredYears();
        Checks.parts("17: ALL", 328, 1, below -> x.total(ALL, below));
        x.latest(1);
        Checks.parts("17: LATEST", 340, 1, below -> x.total(LATEST, below));
        Checks.parts("17: EXPECTED", 925, 1, below -> x.total(EXPECTED, below));
        Checks.parts("17: BLEND", 25675, 94, below -> x.total(BLEND, below));
        Checks.partsFail("17: method -1", Checks.BAD, below -> x.total(-1, below));
        Checks.partsFail("17: method 4", Checks.BAD, below -> x.total(4, below));
        x.leave(1, 0, true);
        x.leave(0, 0, true);
        Checks.partsFail("17: undefined", Checks.UNDEFINED, below -> x.total(ALL, below));
        Checks.parts("17: not EXPECTED", 925, 1, below -> x.total(EXPECTED, below));
    }

    private static void marks() {
        ClaimTriangle x = Samples.insuredYears();
        Checks.answers("18: none", 0, () -> x.marks(ALL));
        x.leave(0, 1, true);
        Checks.answers("18: two of ALL", 2, () -> x.marks(ALL));
        Checks.answers("18: none of EXPECTED", 0, () -> x.marks(EXPECTED));
        x.ratio(-1, 0, 1);
        Checks.answers("18: all of BLEND", 3, () -> x.marks(BLEND));
        x.hide(2);
        Checks.answers("18: of what is not hidden", 1, () -> x.marks(BLEND));
        Checks.fails("18: method -1", Checks.BAD, () -> x.marks(-1));
        Checks.fails("18: method 4", Checks.BAD, () -> x.marks(4));
        int[] tops = {8192, 8192, 8192, 8192, 8192};
        ClaimTriangle y = Samples.steep(tops, Samples.ONES, 1);
        Checks.answers("18: two too long", 20, () -> y.marks(ALL));
        Checks.answers("18: LATEST's too", 20, () -> y.marks(LATEST));
        y.leave(4, 0, true);
        Checks.answers("18: one too long, one undefined", 11, () -> y.marks(LATEST));
    }

    private static void deviation() {
        ClaimTriangle x = Samples.years();
        Checks.parts("19: of factor 0", 2, 3, below -> x.deviation(0, below));
        Checks.partsFail("19: one row", Checks.UNDEFINED, below -> x.deviation(1, below));
        Checks.partsFail("19: factor 2", Checks.BAD, below -> x.deviation(2, below));
        Checks.partsFail("19: factor -1", Checks.BAD, below -> x.deviation(-1, below));
        x.latest(1);
        Checks.parts("19: of ALL whatever LATEST is", 2, 3, below -> x.deviation(0, below));
        x.leave(0, 0, true);
        Checks.partsFail("19: one row that is not left out", Checks.UNDEFINED, below -> x.deviation(0, below));
        x.leave(1, 0, true);
        Checks.partsFail("19: no row", Checks.UNDEFINED, below -> x.deviation(0, below));
        x.build(0, 12, false, 3);
        x.pay(0, 0, 0, -100);
        Checks.partsFail("19: a cell of 0", Checks.UNDEFINED, below -> x.deviation(0, below));
        x.pay(0, 0, 0, -200);
        Checks.partsFail("19: cells whose sum is 0", Checks.UNDEFINED, below -> x.deviation(0, below));
        threeRowsOfDeviation();
        longDeviation();
    }

    /** Cells 1 2, 1 3 and -1 1: the factor is 6; x is -4, -3 and 7, the sum 16 + 9 - 49. */
    private static void threeRowsOfDeviation() {
        ClaimTriangle x = new ClaimTriangle();
        x.build(0, 1, false, 4);
        x.pay(0, 0, 0, 1);
        x.pay(0, 0, 1, 1);
        x.pay(0, 1, 1, 1);
        x.pay(0, 1, 2, 2);
        x.pay(0, 2, 2, -1);
        x.pay(0, 2, 3, 2);
        Checks.parts("19: by one less than there are rows", -12, 1, below -> x.deviation(0, below));
        x.hide(1);
        Checks.parts("19: of what is not hidden", 1, 2, below -> x.deviation(0, below));
    }

    private static void longDeviation() {
        ClaimTriangle x = new ClaimTriangle();
        x.build(0, 1, false, 3);
        Samples.payMuch(x, 0, 0, 99991);
        Samples.payMuch(x, 0, 1, 99989);
        Samples.payMuch(x, 1, 1, 1);
        Samples.payMuch(x, 1, 2, 99971);
        Checks.partsFail("19: too long", Checks.LONG, below -> x.deviation(0, below));
    }

    private static void error() {
        ClaimTriangle x = Samples.years();
        Checks.parts("20: nothing is hidden", 0, 1, below -> x.error(ALL, 0, below));
        Checks.parts("20: nor in the last row", 0, 1, below -> x.error(LATEST, 2, below));
        x.hide(1);
        x.ratio(-1, 5, 1);
        Checks.parts("20: 200 times 3 / 2 less 320", -20, 1, below -> x.error(ALL, 1, below));
        Checks.partsFail("20: row 0", Checks.BAD, below -> x.error(ALL, 0, below));
        Checks.partsFail("20: row 2", Checks.BAD, below -> x.error(ALL, 2, below));
        Checks.partsFail("20: EXPECTED", Checks.BAD, below -> x.error(EXPECTED, 1, below));
        Checks.partsFail("20: BLEND", Checks.BAD, below -> x.error(BLEND, 1, below));
        Checks.partsFail("20: method -1", Checks.BAD, below -> x.error(-1, 1, below));
        x.leave(0, 1, true);
        Checks.partsFail("20: undefined", Checks.UNDEFINED, below -> x.error(LATEST, 1, below));
        x.hide(2);
        Checks.partsFail("20: no row has one", Checks.BAD, below -> x.error(ALL, 0, below));
        Checks.partsFail("20: nor row 2", Checks.BAD, below -> x.error(ALL, 2, below));
        errorOverTwoFactors();
    }

    /** Cells 2 3 5 9, 4 8 9, 10 14 .. and 7: what two hidden periods of five leave of them. */
    private static void errorOverTwoFactors() {
        ClaimTriangle x = new ClaimTriangle();
        x.build(0, 1, false, 5);
        int[][] steps = {{2, 1, 2, 4, 1}, {4, 4, 1, 1}, {10, 4, 6}, {7, 1}, {5}};
        for (int i = 0; i < 5; i++) {
            for (int j = 0; j < steps[i].length; j++) {
                x.pay(0, i, i + j, steps[i][j]);
            }
        }
        x.hide(2);
        Checks.parts("20: 10 times 11 / 6 times 5 / 3 less 20", 95, 9, below -> x.error(ALL, 2, below));
        x.latest(1);
        Checks.parts("20: 10 times 2 times 5 / 3 less 20", 40, 3, below -> x.error(LATEST, 2, below));
        x.hide(1);
        Checks.parts("20: 9 times 9 / 5 less 10", 31, 5, below -> x.error(ALL, 1, below));
        Checks.partsFail("20: row 4 is hidden", Checks.BAD, below -> x.error(ALL, 4, below));
    }

    private static void diagonal() {
        ClaimTriangle x = Samples.years();
        Checks.answers("21: 0", 100, () -> x.diagonal(0));
        Checks.answers("21: 1", 250, () -> x.diagonal(1));
        Checks.answers("21: 2", 450, () -> x.diagonal(2));
        Checks.fails("21: 3", Checks.BAD, () -> x.diagonal(3));
        Checks.fails("21: -1", Checks.BAD, () -> x.diagonal(-1));
        x.leave(0, 1, true);
        Checks.answers("21: what is left out counts", 250, () -> x.diagonal(1));
        x.hide(1);
        Checks.answers("21: not hidden", 250, () -> x.diagonal(1));
        Checks.fails("21: hidden", Checks.BAD, () -> x.diagonal(2));
        x.build(0, 12, true, 2);
        x.estimate(0, 0, 0, 70);
        x.estimate(0, 0, 20, 20);
        Checks.answers("21: estimates count", 200, () -> x.diagonal(1));
    }

    private static void count() {
        ClaimTriangle x = Samples.years();
        x.estimate(0, 0, 0, 500);
        x.pay(1, 0, 0, 11);
        x.pay(0, 71, 71, 1000);
        x.strike(1);
        Checks.answers("22: entries", 9, () -> x.count(0));
        Checks.answers("22: that live", 8, () -> x.count(1));
        Checks.answers("22: n", 3, () -> x.count(2));
        x.hide(2);
        Checks.answers("22: n without what is hidden", 1, () -> x.count(2));
        Checks.answers("22: hidden", 2, () -> x.count(3));
        Checks.answers("22: paid, beyond the triangle too", 1750, () -> x.count(4));
        x.build(1, 1, true, 1);
        Checks.answers("22: paid of the other line", 11, () -> x.count(4));
        Checks.fails("22: -1", Checks.BAD, () -> x.count(-1));
        Checks.fails("22: 5", Checks.BAD, () -> x.count(5));
    }

    private static void readmeExample() {
        ClaimTriangle claims = new ClaimTriangle();
        claims.pay(0, 0, 0, 100);
        claims.pay(0, 0, 12, 50);
        claims.pay(0, 12, 12, 200);
        claims.build(0, 12, false, 2);
        Checks.answers("README: cell", 150, () -> claims.cell(0, 1));
        Checks.answers("README: factor", 3, () -> claims.factor(0, 0, false));
        Checks.answers("README: ultimate", 300, () -> claims.ultimate(0, 1, false));
        Checks.answers("README: rounded", 100, () -> claims.rounded(0, 1));
        Checks.answers("README: total", 100, () -> claims.total(0, false));
    }
}
