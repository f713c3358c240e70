/** Objects that the tests begin with. */
final class Samples {
    static final int ALL = 0;
    static final int LATEST = 1;
    static final int EXPECTED = 2;
    static final int BLEND = 3;
    static final long LIMIT = 1L << 62;
    static final int[] ONES = {1, 1, 1, 1, 1};

    private Samples() {
    }

    /** Rows 100 150 180, 200 320 and 300; factors 47/30 and 6/5. */
    static ClaimTriangle years() {
        ClaimTriangle x = new ClaimTriangle();
        x.pay(0, 0, 0, 100);
        x.pay(0, 11, 12, 50);
        x.pay(0, 0, 35, 30);
        x.pay(0, 12, 23, 200);
        x.pay(0, 23, 24, 120);
        x.pay(0, 24, 24, 300);
        x.build(0, 12, false, 3);
        return x;
    }

    /** The years with premiums whose sums are 1200, 500 and 600, and the ratio 3/4. */
    static ClaimTriangle insuredYears() {
        ClaimTriangle x = years();
        x.premium(0, 0, 1000);
        x.premium(0, 11, 200);
        x.premium(0, 12, 500);
        x.premium(0, 35, 600);
        x.premium(0, 36, 7777);
        x.premium(1, 0, 8888);
        x.ratio(0, 30, 40);
        x.ratio(1, 9, 1);
        return x;
    }

    /**
     * Something of everything: both lines, payments and estimates, a struck entry, premiums,
     * ratios, a tail, a window, a cell that is left out, and one hidden period of six.
     */
    static ClaimTriangle busy() {
        ClaimTriangle x = insuredYears();
        x.pay(0, 36, 36, 17);
        x.pay(0, 37, 50, 19);
        x.pay(0, 48, 48, 23);
        x.pay(0, 60, 71, 29);
        x.pay(1, 0, 0, 31);
        x.pay(1, 12, 40, -37);
        x.estimate(0, 0, 0, 41);
        x.estimate(0, 0, 20, 43);
        x.estimate(0, 30, 30, 47);
        x.estimate(1, 5, 5, 53);
        x.strike(2);
        x.ratio(-1, 5, 4);
        x.latest(2);
        x.build(0, 12, true, 6);
        x.leave(0, 1, true);
        x.leave(5, 0, true);
        x.hide(1);
        return x;
    }

    /** Sixty entries of 1 in month 0, the last of them an estimate; the triangle is the first. */
    static ClaimTriangle full() {
        ClaimTriangle x = new ClaimTriangle();
        for (int entry = 0; entry < 59; entry++) {
            x.pay(0, 0, 0, 1);
        }
        x.estimate(0, 0, 0, 1);
        return x;
    }

    /** One cell, with a tail. */
    static ClaimTriangle tailed(int amount, int above, int below) {
        ClaimTriangle x = new ClaimTriangle();
        x.pay(0, 0, 0, amount);
        x.ratio(-1, above, below);
        return x;
    }

    /** A triangle of months whose cells are those of the rows, as far as these are written. */
    static ClaimTriangle cells(int size, int[]... rows) {
        ClaimTriangle x = new ClaimTriangle();
        x.build(0, 1, false, size);
        for (int i = 0; i < rows.length; i++) {
            int before = 0;
            for (int j = 0; j < rows[i].length; j++) {
                payMuch(x, i, i + j, rows[i][j] - before);
                before = rows[i][j];
            }
        }
        return x;
    }

    /** A row of a triangle. */
    static int[] row(int... values) {
        return values;
    }

    /**
     * A triangle of six months in which factor j is tops[j] / bottoms[j] of row 4 - j alone; row
     * 5 has the cell newest.
     */
    static ClaimTriangle steep(int[] tops, int[] bottoms, int newest) {
        ClaimTriangle x = new ClaimTriangle();
        x.build(0, 1, false, 6);
        for (int j = 0; j < 5; j++) {
            int row = 4 - j;
            payMuch(x, row, row + j, bottoms[j]);
            payMuch(x, row, row + j + 1, tops[j] - bottoms[j]);
            if (j > 0) {
                x.leave(row, j - 1, true);
            }
        }
        payMuch(x, 5, 5, newest);
        return x;
    }

    /** Two rows that fall from c and c - 1 to 1: the parts above stay small in the deviation. */
    static ClaimTriangle alike(int c) {
        return cells(3, row(c, 1), row(c - 1, 1));
    }

    static void payMuch(ClaimTriangle x, int origin, int month, int amount) {
        int rest = amount;
        while (rest != 0) {
            int part = Math.max(-9999, Math.min(9999, rest));
            x.pay(0, origin, month, part);
            rest -= part;
        }
    }
}
