import java.util.Map;
import java.util.Random;
import java.util.TreeMap;

/** Runs of calls, the same ones each time, against the reference model. */
public final class ReferenceTest {
    private static final int RUNS = 3000;
    private static final int CALLS = 512;

    /** How often each call came to each kind of outcome: a test that never gets there is none. */
    private static final Map<String, Integer> SEEN = new TreeMap<>();

    private final ClaimTriangle program = new ClaimTriangle();
    private final ReferenceModel model = new ReferenceModel();
    private final Random dice;
    private final int run;
    private final int taste;
    private int step = 12;
    private int size = 1;

    private ReferenceTest(int run) {
        this.run = run;
        this.taste = run % 6;
        this.dice = new Random(7919L * run + 1);
    }

    public static void main(String[] args) {
        for (int run = 0; run < RUNS; run++) {
            new ReferenceTest(run).play();
        }
        for (String kind : new String[] {"factor", "ultimate", "reserve", "rounded", "total", "deviation", "error"}) {
            for (String outcome : outcomesOf(kind)) {
                Checks.same(kind + " came to " + outcome, true, SEEN.containsKey(kind + " " + outcome));
            }
        }
        System.out.println(SEEN);
        Checks.end();
    }

    // A factor is one step, and an error two factors at most: neither can get too long.
    private static String[] outcomesOf(String kind) {
        return kind.equals("factor") || kind.equals("error")
                ? new String[] {"answer", Checks.BAD, Checks.UNDEFINED}
                : new String[] {"answer", Checks.BAD, Checks.UNDEFINED, Checks.LONG};
    }

    private void play() {
        int entries = 5 + below(50);
        if (taste == 1 || taste == 2) {
            fillAll();
        } else if (taste == 3) {
            fillSteeply();
        } else {
            buildSome();
        }
        for (int call = 40; call < CALLS; call++) {
            boolean filling = (taste == 0 || taste >= 4) && call < entries + 40;
            if (filling || chance(taste == 3 ? 60 : 12)) {
                changeEntries();
            } else if (chance(taste == 3 ? 15 : 6)) {
                changeTerms();
            } else if (chance(taste >= 1 && taste <= 3 ? 200 : 40)) {
                buildSome();
            } else {
                ask();
            }
        }
    }

    private void fillAll() {
        build(0, 1, chance(4), 6);
        for (int i = 0; i < 6; i++) {
            for (int j = 0; i + j < 6; j++) {
                pay(0, i, i + j, amount());
            }
        }
    }

    /** Each factor of a row of its own, and a power of two or the inverse of one. */
    private void fillSteeply() {
        build(0, 1, false, 6);
        for (int j = 0; j < 5; j++) {
            int row = 4 - j;
            int steep = (chance(5) ? -1 : 1) << 10 + below(4);
            boolean upward = !chance(4);
            pay(0, row, row + j, upward ? 1 : steep);
            pay(0, row, row + j + 1, upward ? steep - 1 : 1 - steep);
            if (j > 0) {
                leave(row, j - 1, true);
            }
        }
        pay(0, 5, 5, chance(2) ? 1 : -1);
        for (int origin = 0; origin < 6; origin++) {
            premium(0, origin, 1 << below(14));
        }
    }

    private void changeEntries() {
        int origin = origin();
        int month = chance(30) ? below(75) - 1 : Math.min(71, origin + below(size) * step + below(3));
        int entry = below(64) - 1;
        int line = line();
        int amount = amount();
        switch (below(8)) {
            case 0:
                same("strike(" + entry + ")", () -> program.strike(entry), () -> model.strike(entry));
                break;
            case 1:
                doSame("move(" + entry + ", " + origin + ", " + month + ")",
                        () -> program.move(entry, origin, month), () -> model.move(entry, origin, month));
                break;
            case 2:
            case 3:
                same("estimate(" + line + ", " + origin + ", " + month + ", " + amount + ")",
                        () -> program.estimate(line, origin, month, amount),
                        () -> model.estimate(line, origin, month, amount));
                break;
            default:
                pay(line, origin, month, amount);
        }
    }

    private void pay(int line, int origin, int month, int amount) {
        same("pay(" + line + ", " + origin + ", " + month + ", " + amount + ")",
                () -> program.pay(line, origin, month, amount),
                () -> model.pay(line, origin, month, amount));
    }

    private void premium(int line, int origin, int amount) {
        doSame("premium(" + line + ", " + origin + ", " + amount + ")",
                () -> program.premium(line, origin, amount), () -> model.premium(line, origin, amount));
    }

    private void leave(int i, int j, boolean out) {
        same("leave(" + i + ", " + j + ", " + out + ")",
                () -> program.leave(i, j, out), () -> model.leave(i, j, out));
    }

    private void changeTerms() {
        int line = below(4) - (chance(9) ? 2 : 1);
        int amount = chance(20) ? 10000 : below(10000);
        int origin = origin();
        int i = below(size + 1) - (chance(20) ? 1 : 0);
        int j = chance(12) ? below(8) - 1 : below(Math.max(1, size - i));
        switch (below(6)) {
            case 0:
            case 1:
                premium(line, origin, amount);
                break;
            case 2:
                int over = chance(8) ? 0 : part();
                int under = part();
                doSame("ratio(" + line + ", " + over + ", " + under + ")",
                        () -> program.ratio(line, over, under), () -> model.ratio(line, over, under));
                break;
            case 3:
                leave(i, j, !chance(3));
                break;
            case 4:
                int window = below(8);
                doSame("latest(" + window + ")", () -> program.latest(window), () -> model.latest(window));
                break;
            default:
                int hidden = chance(3) ? 0 : below(size + 2) - (chance(9) ? 1 : 0);
                same("hide(" + hidden + ")", () -> program.hide(hidden), () -> model.hide(hidden));
        }
    }

    private void buildSome() {
        int line = line();
        int newStep = taste % 2 == 0 ? 1 + below(2) : below(14);
        int newSize = chance(4) ? below(8) : 4 + below(3);
        build(line, newStep, chance(2), newSize);
    }

    private void build(int line, int newStep, boolean incurred, int newSize) {
        String got = doSame("build(" + line + ", " + newStep + ", " + incurred + ", " + newSize + ")",
                () -> program.build(line, newStep, incurred, newSize),
                () -> model.build(line, newStep, incurred, newSize));
        if (got.equals("done")) {
            step = newStep;
            size = newSize;
        }
    }

    private void ask() {
        int method = chance(30) ? below(8) - 2 : below(4);
        int chainMethod = chance(20) ? below(8) - 2 : below(2);
        int i = chance(30) ? below(9) - 1 : below(size);
        int j = chance(30) ? below(9) - 1 : below(size);
        switch (below(11)) {
            case 0:
                same("cell(" + i + ", " + j + ")", () -> program.cell(i, j), () -> model.cell(i, j));
                break;
            case 1:
                sameParts("factor", chainMethod, j, below -> program.factor(chainMethod, j, below),
                        () -> model.factor(chainMethod, j));
                break;
            case 2:
                sameParts("ultimate", method, i, below -> program.ultimate(method, i, below),
                        () -> model.ultimate(method, i));
                break;
            case 3:
                sameParts("reserve", method, i, below -> program.reserve(method, i, below),
                        () -> model.reserve(method, i));
                break;
            case 4:
                same("rounded(" + method + ", " + i + ")",
                        () -> program.rounded(method, i), () -> model.rounded(method, i));
                break;
            case 5:
                sameParts("total", method, -1, below -> program.total(method, below), () -> model.total(method));
                break;
            case 6:
                same("marks(" + method + ")", () -> program.marks(method), () -> model.marks(method));
                break;
            case 7:
                sameParts("deviation", -1, j, below -> program.deviation(j, below), () -> model.deviation(j));
                break;
            case 8:
                sameParts("error", chainMethod, i, below -> program.error(chainMethod, i, below),
                        () -> model.error(chainMethod, i));
                break;
            case 9:
                same("diagonal(" + j + ")", () -> program.diagonal(j), () -> model.diagonal(j));
                break;
            default:
                int which = below(7) - 1;
                same("count(" + which + ")", () -> program.count(which), () -> model.count(which));
        }
    }

    private interface Part {
        long of(boolean below);
    }

    private interface Whole {
        ReferenceModel.Ratio ratio();
    }

    private void sameParts(String name, int first, int second, Part part, Whole whole) {
        boolean below = chance(2);
        String what = name + "(" + first + ", " + second + ", " + below + ")";
        same(what, () -> part.of(below), () -> below ? whole.ratio().below() : whole.ratio().above());
    }

    private String doSame(String what, Checks.Step program, Checks.Step model) {
        return same(what, () -> done(program), () -> done(model));
    }

    private static String done(Checks.Step step) {
        step.run();
        return "done";
    }

    private String same(String what, Checks.Call program, Checks.Call model) {
        String due = Checks.outcome(model);
        String kind = due.endsWith("Exception") ? due : "answer";
        SEEN.merge(what.substring(0, what.indexOf('(')) + " " + kind, 1, Integer::sum);
        Checks.same("run " + run + ": " + what, due, Checks.outcome(program));
        return due;
    }

    /** Small amounts make sums of 0, powers of two parts at the very limit, large ones long steps. */
    private int amount() {
        if (chance(25)) {
            return new int[] {-10000, -9999, 9999, 10000, 0, -1}[below(6)];
        }
        switch (taste) {
            case 0:
                return below(4) - 1;
            case 1:
            case 2:
                return 9000 + below(1000);
            case 3:
                return (chance(3) ? -1 : 1) * (1 << below(14));
            case 4:
                return below(50) - (chance(3) ? 30 : 0);
            default:
                return below(20000) - 10000;
        }
    }

    private int part() {
        if (chance(20)) {
            return below(2) * 10000;
        }
        return taste == 3 ? 1 << below(14) : 1 + below(taste == 0 || taste == 4 ? 5 : 9999);
    }

    private int origin() {
        return chance(30) ? below(76) - 2 : Math.min(71, below(Math.max(1, size * step)));
    }

    private int line() {
        return chance(40) ? below(5) - 2 : (chance(4) ? 1 : 0);
    }

    private int below(int bound) {
        return dice.nextInt(bound);
    }

    private boolean chance(int oneIn) {
        return dice.nextInt(oneIn) == 0;
    }
}
