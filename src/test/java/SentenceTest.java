import java.io.IOException;

/** The document sentence by sentence: each one that the program is held to has a test of its own. */
public final class SentenceTest {
    private static final int CALLS = 512;

    public static void main(String[] args) throws IOException {
        whatItIs();
        Sentences terms = Sentences.of("Terms");
        TriangleTerms.check(terms);
        FractionTerms.check(terms);
        MethodTerms.check(terms);
        terms.end();
        EditingPromises.check();
        AskingPromises.check();
        Checks.end();
    }

    private static void whatItIs() throws IOException {
        Sentences section = Sentences.of("What it is");
        section.holds("Puts payments of claims into triangles, by when the claims began and how long it took to pay"
                + " them, and tells from these in exact fractions what is still to be paid, by four methods, with"
                + " cells that are left out and latest diagonals that are hidden.", SentenceTest::summary);
        section.holds("An object is used for at most 512 calls after it has been made; what later calls answer is"
                + " free.", SentenceTest::manyCalls);
        section.end();
    }

    private static void summary() {
        ClaimTriangle x = Samples.insuredYears();
        x.latest(1);
        int[] above = {328, 340, 925, 25675};
        int[] under = {1, 1, 1, 94};
        for (int method = 0; method < 4; method++) {
            int asked = method;
            Checks.parts("method " + method, above[method], under[method], below -> x.total(asked, below));
        }
        x.leave(0, 0, true);
        Checks.parts("a cell is left out", 340, 1, below -> x.total(Samples.ALL, below));
        x.leave(0, 0, false);
        x.hide(1);
        Checks.parts("a diagonal is hidden", 100, 1, below -> x.total(Samples.ALL, below));
    }

    /** The object is full, and asked for its dearest answers all along. */
    private static void manyCalls() {
        ClaimTriangle x = new ClaimTriangle();
        x.build(0, 1, true, 6);
        for (int entry = 0; entry < 60; entry++) {
            x.pay(0, entry % 6, entry % 6 + entry / 12, 1);
        }
        String due = Checks.outcome(() -> x.total(Samples.BLEND, false));
        Checks.same("it is an answer", false, due.endsWith("Exception"));
        for (int call = 63; call <= CALLS; call++) {
            Checks.same("call " + call, due, Checks.outcome(() -> x.total(Samples.BLEND, false)));
        }
    }
}
