/** "2 KINDS", with promises 6 and 7: each edge that the four kinds name, one test a sentence. */
public final class KindsEdgeTest {
    private static final Expect EXPECT = new Expect();

    public static void main(String[] args) {
        kindsInRange();
        eachKindAlone();
        notTheSameTwice();
        halvesSetsOfRows();
        halvesOddFactors();
        halvesNearerSide();
        halvesRoundedDown();
        roundedDivisors();
        roundedLeftOver();
        roundedSide();
        roundedOutsideTheBounds();
        roundedDown();
        coverLiterals();
        coverCapacity();
        coverAboveTheCapacity();
        coverWithoutAnyOne();
        coverShowsTheRow();
        coverSetsInOrder();
        coverAlphas();
        coverAlphasByOrder();
        coverLiteralsBelowZero();
        cliqueClashes();
        cliqueSetsInOrder();
        cliquesOfAll();
        cliqueNoOtherClashes();
        closedAtForty();
        closedStays();
        EXPECT.end();
    }

    /** "BAD: kind is not 0 .. 3." */
    private static void kindsInRange() {
        CutProofs x = new CutProofs();
        for (int kind : new int[] {-1, 4, Integer.MIN_VALUE, Integer.MAX_VALUE}) {
            EXPECT.due("find(" + kind + ")", -2, x.find(kind));
        }
        for (int kind = 0; kind <= 3; kind++) {
            EXPECT.due("nothing to find", 0, x.find(kind));
            EXPECT.due("closed()", 1, x.closed());
        }
    }

    /** "CUTS of a kind are sought" */
    private static void eachKindAlone() {
        int[] taken = {1, 2, 1, 1};
        for (int kind = 0; kind <= 3; kind++) {
            CutProofs x = Models.binaries(3);
            Models.addRow(x, 1, 2, 1, 0);
            Models.addRow(x, 1, 0, 1, 1);
            x.point(0, 1, 1);
            x.point(1, 3, 4);
            x.point(2, 0, 1);
            EXPECT.due("find(" + kind + ")", taken[kind], x.find(kind));
            EXPECT.cut(x, taken[kind] - 1, 2, 0, Integer.toString(kind));
            CutProofs y = Models.knapsack();
            y.find(kind);
            for (int k = 0; k < y.told(2); k++) {
                EXPECT.cut(y, k, 2, 0, Integer.toString(kind));
            }
        }
    }

    /** "there is no CUT (of whatever kind) with the same FACTORS and RIGHT" */
    private static void notTheSameTwice() {
        CutProofs x = new CutProofs();
        x.row(-9);
        EXPECT.due("-5 by 2", 1, x.find(0));
        EXPECT.due("not -5 by 2 again, but -3, -2, -1", 3, x.find(1));
        EXPECT.due("D", 3, x.proof(1, 3, 0));
        x.plant(0, 1, 0, -6);
        EXPECT.due("-5 is not there now", 1, x.find(1));
        EXPECT.wholeCut(x, 4, 1, -5);
        EXPECT.due("nor is one to be taken of halves", 0, x.find(0));
        CutProofs y = Models.binaries(2);
        Models.addRow(y, 1, 1, 1);
        Models.pointAll(y, 2, 1, 1);
        EXPECT.due("a cover", 1, y.find(2));
        EXPECT.due("the same as a clique", 0, y.find(3));
        y.plant(0, 0, 1, 2);
        EXPECT.due("the last factor differs", 1, y.find(3));
        y.plant(1, 0, 0, 0);
        EXPECT.due("the first factor differs", 1, y.find(3));
        y.plant(2, 1, 0, 0);
        EXPECT.due("the right differs", 1, y.find(3));
        EXPECT.due("told(2)", 4, y.told(2));
    }

    /** "each set of ROWS that is not empty (as bits, ROW 0 the lowest; the least number first)" */
    private static void halvesSetsOfRows() {
        EXPECT.due("no row", 0, Models.binaries(1).find(0));
        CutProofs one = new CutProofs();
        one.row(-2);
        EXPECT.due("a set of one", 1, one.find(0));
        EXPECT.due("row 0", 1, one.proof(0, 0, 0));
        CutProofs x = new CutProofs();
        for (int r = 0; r < 10; r++) {
            x.row(-2);
        }
        EXPECT.due("a cut for each number of rows", 10, x.find(0));
        for (int k = 0; k < 10; k++) {
            EXPECT.wholeCut(x, k, 0, -(k + 1));
            for (int r = 0; r < 10; r++) {
                EXPECT.due("the least set of so many", r <= k ? 1 : 0, x.proof(k, 0, r));
            }
        }
    }

    /** "for each NAME whose FACTOR in the sum is odd" */
    private static void halvesOddFactors() {
        for (int f = -50; f <= 50; f++) {
            int odd = f == 2 * (f >> 1) ? 0 : 1;
            CutProofs x = new CutProofs();
            x.name(0, 0);
            Models.addRow(x, -100, f);
            EXPECT.due("find(0)", 1, x.find(0));
            EXPECT.wholeCut(x, 0, 0, -50, (f + odd) / 2);
            EXPECT.due("high of " + f, odd, x.proof(0, 2, 0));
            EXPECT.due("low of " + f, 0, x.proof(0, 1, 0));
        }
        CutProofs y = new CutProofs();
        y.name(1, 1);
        Models.addRow(y, -1, 1);
        Models.addRow(y, -2, -3);
        EXPECT.due("1, -3, and -2 of both", 3, y.find(0));
        EXPECT.wholeCut(y, 0, 0, -1, 0);
        EXPECT.wholeCut(y, 1, 0, -2, -2);
        EXPECT.wholeCut(y, 2, 0, -2, -1);
        int[] lows = {1, 1, 0};
        for (int k = 0; k < 3; k++) {
            EXPECT.due("low", lows[k], y.proof(k, 1, 0));
            EXPECT.due("high", 0, y.proof(k, 2, 0));
        }
    }

    /** "its HIGH once more .., if HIGH less the POINT's is not above the POINT's less LOW; else its LOW" */
    private static void halvesNearerSide() {
        halvesAt(0, 1, 6, 12, true, -49);
        halvesAt(0, 1, 5, 12, false, -50);
        halvesAt(0, 1, 7, 12, true, -49);
        halvesAt(0, 1, 400, 1, true, -49);
        halvesAt(0, 1, -1, 12, false, -50);
        halvesAt(0, 1, -400, 1, false, -50);
        halvesAt(-3, -2, -30, 12, true, -51);
        halvesAt(-3, -2, -31, 12, false, -48);
        halvesAt(-30, 30, 0, 1, true, -35);
        halvesAt(-30, 30, -1, 12, false, -35);
        halvesAt(7, 7, 84, 12, true, -46);
        halvesAt(7, 7, 83, 12, false, -53);
    }

    /** One name once and the right -99, so that the cut is broken whichever side is taken. */
    private static void halvesAt(int low, int high, int above, int below, boolean takesHigh, int right) {
        CutProofs x = new CutProofs();
        x.name(low, high);
        Models.addRow(x, -99, 1);
        x.point(0, above, below);
        String text = low + " .. " + high + " at " + above + " / " + below;
        EXPECT.due("find(0) of " + text, 1, x.find(0));
        EXPECT.wholeCut(x, 0, 0, right, takesHigh ? 1 : 0);
        EXPECT.due("low of " + text, takesHigh ? 0 : 1, x.proof(0, 1, 0));
        EXPECT.due("high of " + text, takesHigh ? 1 : 0, x.proof(0, 2, 0));
    }

    /** "half of the RIGHT, rounded down" */
    private static void halvesRoundedDown() {
        int[] rights = {-1, -2, -3, -4, -5, -9998, -9999};
        int[] halves = {-1, -1, -2, -2, -3, -4999, -5000};
        for (int j = 0; j < rights.length; j++) {
            CutProofs x = new CutProofs();
            x.row(rights[j]);
            EXPECT.due("find(0)", 1, x.find(0));
            EXPECT.wholeCut(x, 0, 0, halves[j]);
            EXPECT.due("check(0)", 1, x.check(0));
        }
        for (int right = 0; right <= 3; right++) {
            CutProofs x = new CutProofs();
            x.name(0, 1);
            Models.addRow(x, right, 2);
            x.point(0, 1, 1);
            EXPECT.due("1 is above half of " + right, right < 2 ? 1 : 0, x.find(0));
        }
        CutProofs y = new CutProofs();
        for (int r = 0; r < 10; r++) {
            y.row(-9999);
        }
        EXPECT.due("find(0)", 10, y.find(0));
        int[] sums = {-5000, -9999, -14999, -19998, -24998, -29997, -34997, -39996, -44996, -49995};
        for (int k = 0; k < 10; k++) {
            EXPECT.wholeCut(y, k, 0, sums[k]);
        }
    }

    /** "for D = 2 .. 9" */
    private static void roundedDivisors() {
        CutProofs x = new CutProofs();
        x.row(-9999);
        EXPECT.due("find(1)", 8, x.find(1));
        int[] rights = {-5000, -3333, -2500, -2000, -1667, -1429, -1250, -1111};
        for (int k = 0; k < 8; k++) {
            EXPECT.wholeCut(x, k, 1, rights[k]);
            EXPECT.due("D", k + 2, x.proof(k, 3, 0));
        }
        CutProofs y = new CutProofs();
        y.row(-9);
        EXPECT.due("-5, -3, -2, -1: 9 is the first that gives -1, 1 would give -9", 4, y.find(1));
        EXPECT.wholeCut(y, 0, 1, -5);
        EXPECT.wholeCut(y, 3, 1, -1);
        EXPECT.due("D", 9, y.proof(3, 3, 0));
        CutProofs z = new CutProofs();
        z.row(-10);
        EXPECT.due("-5, -4, -3, -2: 10 would give -1", 4, z.find(1));
    }

    /** "q being what its FACTOR leaves over, divided by D (0 .. D - 1): with q 0 nothing" */
    private static void roundedLeftOver() {
        for (int f = -50; f <= 50; f++) {
            roundedOf(f, false);
            roundedOf(f, true);
        }
        CutProofs x = new CutProofs();
        x.name(0, 1);
        x.name(0, 1);
        Models.addRow(x, 1, 1, 1);
        Models.addRow(x, -4, 2, 4);
        x.point(1, 1, 1);
        EXPECT.due("of row 1 alone", 1, x.find(1) > 0 ? 1 : 0);
        EXPECT.wholeCut(x, 0, 1, -2, 1, 2);
        for (int n = 0; n < 2; n++) {
            EXPECT.due("nothing, whatever row 0 came to", 0, x.proof(0, 1, n));
            EXPECT.due("nothing, whatever row 0 came to", 0, x.proof(0, 2, n));
        }
        EXPECT.due("row 0", 0, x.proof(0, 0, 0));
        EXPECT.due("row 1", 1, x.proof(0, 0, 1));
    }

    /** A name that is 0 alone: at the point 0 its low is taken, a little above it its high. */
    private static void roundedOf(int f, boolean takesHigh) {
        CutProofs x = new CutProofs();
        x.name(0, 0);
        Models.addRow(x, -9999, f);
        x.point(0, takesHigh ? 1 : 0, 12);
        EXPECT.due("find(1)", 8, x.find(1));
        for (int d = 2; d <= 9; d++) {
            int q = f;
            while (q < 0) q += d;
            while (q >= d) q -= d;
            String text = f + " by " + d;
            int high = takesHigh && q != 0 ? d - q : 0;
            int low = takesHigh ? 0 : q;
            EXPECT.due("low: " + text, low, x.proof(d - 2, 1, 0));
            EXPECT.due("high: " + text, high, x.proof(d - 2, 2, 0));
            EXPECT.cut(x, d - 2, 0, 0, Integer.toString((f - low + high) / d));
            EXPECT.due("check: " + text, 1, x.check(d - 2));
        }
    }

    /** "its LOW q times .., if q times what the POINT's is above LOW is not above D - q times what HIGH is above" */
    private static void roundedSide() {
        for (int d = 2; d <= 9; d++) {
            for (int q = 1; q < d; q++) {
                roundedBetween(d, q, 0);
                roundedBetween(d, q, 1);
                roundedBetween(d, q, -1);
            }
        }
    }

    /** Of a name 0 .. D both are like far at D - q; twelfths are added to that. */
    private static void roundedBetween(int d, int q, int twelfths) {
        CutProofs x = new CutProofs();
        x.name(0, d);
        Models.addRow(x, -9999, q);
        x.point(0, 12 * (d - q) + twelfths, 12);
        x.find(1);
        boolean takesLow = twelfths <= 0;
        String text = q + " left over by " + d + ", " + twelfths + " twelfths";
        EXPECT.due("D", d, x.proof(d - 2, 3, 0));
        EXPECT.due("low: " + text, takesLow ? q : 0, x.proof(d - 2, 1, 0));
        EXPECT.due("high: " + text, takesLow ? 0 : d - q, x.proof(d - 2, 2, 0));
        EXPECT.cut(x, d - 2, 0, 0, takesLow ? "0" : "1");
        int down = -((9999 + d - 1) / d);
        EXPECT.cut(x, d - 2, 1, 0, Integer.toString(takesLow ? down : down + d - q));
    }

    /** The same where the POINT is not from LOW to HIGH, so that one of the two is below 0 */
    private static void roundedOutsideTheBounds() {
        int[] aboves = {-31, -30, 30, 31, 400, -400};
        for (int above : aboves) {
            CutProofs x = new CutProofs();
            x.name(-30, 30);
            Models.addRow(x, -9999, 1);
            x.point(0, above, 1);
            EXPECT.due("find(1)", 8, x.find(1));
            for (int d = 2; d <= 9; d++) {
                EXPECT.due("low at " + above, above < 0 ? 1 : 0, x.proof(d - 2, 1, 0));
                EXPECT.due("high at " + above, above < 0 ? 0 : d - 1, x.proof(d - 2, 2, 0));
            }
        }
    }

    /** "the RIGHT by D, rounded down", where it is below 0 only by what was taken */
    private static void roundedDown() {
        CutProofs x = new CutProofs();
        x.name(4, 9);
        Models.addRow(x, 3, 1);
        EXPECT.due("3 less 4, by each D", 1, x.find(1));
        EXPECT.wholeCut(x, 0, 1, -1, 0);
        CutProofs y = new CutProofs();
        y.name(-9, -4);
        Models.addRow(y, 3, -1);
        y.point(0, -4, 1);
        EXPECT.due("3 and once -4", 1, y.find(1));
        EXPECT.wholeCut(y, 0, 1, -1, 0);
        EXPECT.due("high once", 1, y.proof(0, 2, 0));
        CutProofs z = new CutProofs();
        z.name(3, 9);
        Models.addRow(z, 3, 1);
        EXPECT.due("3 less 3 is 0, and 0 is not above 0", 0, z.find(1));
        int[] rights = {-1, -2, -9, -10, -18, -19};
        int[] ninths = {-1, -1, -1, -2, -2, -3};
        for (int j = 0; j < rights.length; j++) {
            CutProofs w = new CutProofs();
            w.row(rights[j]);
            int last = w.find(1) - 1;
            EXPECT.cut(w, last, 1, 0, Integer.toString(ninths[j]));
        }
    }

    /** "its LITERALS, the BINARY NAMES with a FACTOR that is not 0" */
    private static void coverLiterals() {
        CutProofs x = new CutProofs();
        EXPECT.due("no row", 0, x.find(2));
        x.row(-1);
        EXPECT.due("no name", 0, x.find(2));
        x.name(0, 1);
        x.point(0, 1, 1);
        EXPECT.due("a factor of 0", 0, x.find(2));
        CutProofs y = Models.binaries(3);
        Models.addRow(y, 0, 1, 0, -1);
        Models.pointAll(y, 2, 1, 1);
        EXPECT.due("capacity 1: the first and 1 less the third", 1, y.find(2));
        EXPECT.wholeCut(y, 0, 2, 0, 1, 0, -1);
    }

    /** "The CAPACITY is the RIGHT, less the LEASTS of the NAMES that are not BINARY, and the WEIGHTS .. more." */
    private static void coverCapacity() {
        EXPECT.due("-1 - 2 * -2 is 3: 4 is above", 1, coversBeside(-1, -2, 3, 2));
        EXPECT.due("0 - 2 * -2 is 4: 4 is not", 0, coversBeside(0, -2, 3, 2));
        EXPECT.due("-1500 is 0: 4 is above", 1, coversBeside(-1500, -30, 30, -50));
        EXPECT.due("-1501 is below 0", 0, coversBeside(-1501, -30, 30, -50));
        EXPECT.due("9999 less 1500", 0, coversBeside(9999, 30, 30, 50));
        EXPECT.due("1503 less 1500", 1, coversBeside(1503, 30, 30, 50));
        EXPECT.due("1504 less 1500", 0, coversBeside(1504, 30, 30, 50));
        int[] rights = {-5, -4, -1, 0, 3, 4};
        int[] covers = {0, 2, 2, 1, 1, 0};
        for (int j = 0; j < rights.length; j++) {
            CutProofs x = Models.binaries(2);
            Models.addRow(x, rights[j], 4, -4);
            x.point(0, 1, 1);
            EXPECT.due("the right " + rights[j] + " and 4 more", covers[j], x.find(2));
        }
    }

    private static int coversBeside(int right, int low, int high, int factor) {
        CutProofs x = Models.binaries(1);
        x.name(low, high);
        Models.addRow(x, right, 4, factor);
        x.point(0, 1, 1);
        return x.find(2);
    }

    /** "if the WEIGHTS in it are above the CAPACITY" */
    private static void coverAboveTheCapacity() {
        int[] rights = {-1, 0, 2, 3, 4, 6, 7, 9999};
        int[] covers = {0, 2, 2, 1, 1, 1, 0, 0};
        for (int j = 0; j < rights.length; j++) {
            CutProofs x = Models.binaries(2);
            Models.addRow(x, rights[j], 3, 4);
            Models.pointAll(x, 2, 1, 1);
            EXPECT.due("3 and 4, capacity " + rights[j], covers[j], x.find(2));
        }
    }

    /** "and without any one of it are not" */
    private static void coverWithoutAnyOne() {
        CutProofs x = Models.binaries(2);
        Models.addRow(x, 3, 3, 4);
        Models.pointAll(x, 2, 1, 1);
        x.find(2);
        EXPECT.wholeCut(x, 0, 2, 0, 0, 1);
        CutProofs y = Models.binaries(2);
        Models.addRow(y, 4, 3, 4);
        Models.pointAll(y, 2, 1, 1);
        y.find(2);
        EXPECT.wholeCut(y, 0, 2, 1, 1, 1);
        CutProofs z = Models.binaries(3);
        Models.addRow(z, 6, 2, 5, 4);
        Models.pointAll(z, 3, 1, 1);
        EXPECT.due("{0, 1}, {1, 2}; all of them without the first are 9", 2, z.find(2));
        EXPECT.wholeCut(z, 0, 2, 1, 1, 1, 0);
        EXPECT.wholeCut(z, 1, 2, 1, 0, 1, 1);
    }

    /** "Shown by: the ROW." */
    private static void coverShowsTheRow() {
        CutProofs x = Models.binaries(2);
        for (int r = 0; r < 9; r++) {
            Models.addRow(x, 2, 1, 1);
        }
        Models.addRow(x, 1, 1, 1);
        Models.pointAll(x, 2, 1, 1);
        EXPECT.due("the last row alone", 1, x.find(2));
        EXPECT.due("row 9", 9, x.proof(0, 0, 0));
        EXPECT.due("check(0)", 1, x.check(0));
        EXPECT.due("the same pair clashes in row 9", 0, x.find(3));
        x.plant(0, 1, 0, 2);
        EXPECT.due("the same pair clashes in row 9", 1, x.find(3));
    }

    /** "each set C of them that is not empty (as bits, the first LITERAL the lowest; the least number first)" */
    private static void coverSetsInOrder() {
        CutProofs x = Models.binaries(8);
        Models.addRow(x, 7, 1, 1, 1, 1, 1, 1, 1, 1);
        Models.pointAll(x, 8, 1, 1);
        EXPECT.due("the set of all", 1, x.find(2));
        EXPECT.wholeCut(x, 0, 2, 7, 1, 1, 1, 1, 1, 1, 1, 1);
        CutProofs y = Models.binaries(8);
        Models.addRow(y, 0, 1, 1, 1, 1, 1, 1, 1, 1);
        Models.pointAll(y, 8, 1, 1);
        EXPECT.due("sets of one", 8, y.find(2));
        for (int k = 0; k < 8; k++) {
            for (int n = 0; n < 8; n++) {
                EXPECT.cut(y, k, 0, n, n == k ? "1" : "0");
            }
            EXPECT.cut(y, k, 1, 0, "0");
        }
        CutProofs z = Models.binaries(4);
        Models.addRow(z, 9, 9, 0, 1, 8);
        Models.pointAll(z, 4, 1, 1);
        EXPECT.due("{0, 2}, {0, 3} by the literals", 2, z.find(2));
        EXPECT.wholeCut(z, 0, 2, 1, 1, 0, 1, 0);
        EXPECT.wholeCut(z, 1, 2, 1, 1, 0, 0, 1);
    }

    /** "not above the CAPACITY less its own WEIGHT; n - 1, if that is below 0" */
    private static void coverAlphas() {
        int[] alphas = {0, 0, 1, 1, 1, 2, 2, 2, 2, 2};
        for (int w = 1; w <= 10; w++) {
            CutProofs x = Models.binaries(4);
            Models.addRow(x, 8, 3, 3, 3, w);
            Models.pointAll(x, 4, 1, 1);
            x.find(2);
            EXPECT.wholeCut(x, 0, 2, 2, 1, 1, 1, alphas[w - 1]);
            EXPECT.due("check beside " + w, 1, x.check(0));
        }
        CutProofs y = Models.binaries(2);
        Models.addRow(y, 2, 3, 50);
        Models.pointAll(y, 2, 1, 1);
        EXPECT.due("of a set of one n - 1 is 0", 2, y.find(2));
        EXPECT.wholeCut(y, 0, 2, 0, 1, 0);
        EXPECT.wholeCut(y, 1, 2, 0, 0, 1);
    }

    /** "the others, by their order: .. of LITERALS that have one by then" */
    private static void coverAlphasByOrder() {
        CutProofs x = Models.binaries(6);
        Models.addRow(x, 10, 5, 5, 5, 4, 4, 2);
        Models.pointAll(x, 6, 1, 1);
        x.find(2);
        EXPECT.wholeCut(x, 0, 2, 2, 1, 1, 1, 1, 1, 0);
        CutProofs y = Models.binaries(6);
        Models.addRow(y, 10, 5, 5, 5, 2, 4, 4);
        Models.pointAll(y, 6, 1, 1);
        y.find(2);
        EXPECT.wholeCut(y, 0, 2, 2, 1, 1, 1, 1, 1, 0);
    }

    /** "one below 0 as 1 less that", and the CUT "in NAMES" */
    private static void coverLiteralsBelowZero() {
        CutProofs x = Models.binaries(4);
        Models.addRow(x, -7, -3, -3, -3, -6);
        EXPECT.due("as the weights 3, 3, 3, 6 with the capacity 8", 4, x.find(2));
        EXPECT.wholeCut(x, 0, 2, -3, -1, -1, -1, -2);
        EXPECT.wholeCut(x, 1, 2, -1, -1, 0, 0, -1);
        EXPECT.wholeCut(x, 2, 2, -1, 0, -1, 0, -1);
        EXPECT.wholeCut(x, 3, 2, -1, 0, 0, -1, -1);
        EXPECT.strength(x, 0, 0, "3");
        EXPECT.due("accepted", 4, x.told(4));
        CutProofs y = Models.binaries(8);
        Models.addRow(y, -400, -50, -50, -50, -50, -50, -50, -50, -50);
        EXPECT.due("a capacity of 0", 8, y.find(2));
        EXPECT.wholeCut(y, 7, 2, -1, 0, 0, 0, 0, 0, 0, 0, -1);
        CutProofs z = Models.binaries(8);
        Models.addRow(z, -401, -50, -50, -50, -50, -50, -50, -50, -50);
        EXPECT.due("a capacity of -1", 0, z.find(2));
    }

    /** "CLASH in a ROW, if both their FACTORS and the LEASTS of the other NAMES are together above its RIGHT" */
    private static void cliqueClashes() {
        EXPECT.due("3 + 4 - 2 is above 4", 1, cliquesAt(4));
        EXPECT.due("3 + 4 - 2 is not above 5", 0, cliquesAt(5));
        EXPECT.due("no row", 0, Models.binaries(2).find(3));
        CutProofs x = Models.binaries(2);
        Models.addRow(x, -1, 0, 0);
        Models.pointAll(x, 2, 1, 1);
        EXPECT.due("factors of 0 clash too", 1, x.find(3));
        CutProofs y = Models.binaries(2);
        Models.addRow(y, -2, -1, 0);
        Models.pointAll(y, 2, 1, 1);
        EXPECT.due("-1 is above -2", 1, y.find(3));
        CutProofs z = Models.binaries(2);
        Models.addRow(z, -1, -1, 0);
        Models.pointAll(z, 2, 1, 1);
        EXPECT.due("-1 is not above -1", 0, z.find(3));
        CutProofs w = Models.binaries(8);
        for (int r = 0; r < 10; r++) {
            Models.addRow(w, 2, 1, 1, 1, 1, 1, 1, 1, 1);
        }
        Models.pointAll(w, 8, 1, 1);
        EXPECT.due("two are not above 2 in any of ten rows", 0, w.find(3));
    }

    private static int cliquesAt(int right) {
        CutProofs x = Models.binaries(3);
        Models.addRow(x, right, 3, 4, -2);
        Models.pointAll(x, 2, 1, 1);
        return x.find(3);
    }

    /** "For each set of two BINARY NAMES or more (as bits of all NAMES, NAME 0 the lowest; the least number first)" */
    private static void cliqueSetsInOrder() {
        CutProofs x = Models.binaries(2);
        x.name(5, 9);
        x.name(0, 1);
        x.name(0, 1);
        Models.addRow(x, 1, 0, 0, 0, 1, 1);
        Models.addRow(x, 1, 1, 0, 0, 0, 1);
        Models.addRow(x, 1, 1, 1, 0, 0, 0);
        Models.pointAll(x, 5, 1, 1);
        EXPECT.due("{0, 1}, {0, 4}, {3, 4}", 3, x.find(3));
        EXPECT.wholeCut(x, 0, 3, 1, 1, 1, 0, 0, 0);
        EXPECT.wholeCut(x, 1, 3, 1, 1, 0, 0, 0, 1);
        EXPECT.wholeCut(x, 2, 3, 1, 0, 0, 0, 1, 1);
        CutProofs y = Models.binaries(1);
        Models.addRow(y, -1, 1);
        y.point(0, 2, 1);
        EXPECT.due("no set of one", 0, y.find(3));
    }

    /** The set of all NAMES, two by two in ROWS of their own or all in one */
    private static void cliquesOfAll() {
        CutProofs x = Models.binaries(8);
        Models.addRow(x, 1, 1, 1, 1, 1, 1, 1, 1, 1);
        Models.pointAll(x, 8, 1, 7);
        EXPECT.due("8 / 7 is above 1", 1, x.find(3));
        EXPECT.wholeCut(x, 0, 3, 1, 1, 1, 1, 1, 1, 1, 1, 1);
        EXPECT.due("check(0)", 1, x.check(0));
        EXPECT.due("holds(0)", 1, x.holds(0));
        EXPECT.strength(x, 0, 0, "1");
        EXPECT.strength(x, 0, 1, "7");
        CutProofs y = Models.binaries(8);
        Models.addRow(y, 1, 1, 1, 1, 1, 1, 1, 1, 1);
        Models.pointAll(y, 8, 1, 8);
        EXPECT.due("8 / 8 is not", 0, y.find(3));
    }

    /** "and no other BINARY NAME CLASHES with each of it" */
    private static void cliqueNoOtherClashes() {
        CutProofs x = Models.triangle();
        Models.pointAll(x, 3, 1, 1);
        EXPECT.due("all three alone", 1, x.find(3));
        EXPECT.wholeCut(x, 0, 3, 1, 1, 1, 1);
        x.factor(1, 1, 0);
        Models.pointAll(x, 3, 1, 1);
        EXPECT.due("1 and 2 no longer clash", 2, x.find(3));
        EXPECT.wholeCut(x, 0, 3, 1, 1, 1, 0);
        EXPECT.wholeCut(x, 1, 3, 1, 1, 0, 1);
        CutProofs y = Models.binaries(2);
        y.name(0, 2);
        Models.addRow(y, 1, 1, 1, 1);
        Models.pointAll(y, 3, 1, 1);
        EXPECT.due("one that is not binary does not count", 1, y.find(3));
        EXPECT.wholeCut(y, 0, 3, 1, 1, 1, 0);
    }

    /** "0: one more was to be taken when there were 40 CUTS" */
    private static void closedAtForty() {
        EXPECT.due("before", 1, new CutProofs().closed());
        CutProofs x = Models.negativeRights(1, 2, 4, 8, 16, 8);
        EXPECT.due("39", 39, x.find(0));
        EXPECT.due("all of 39", 1, x.closed());
        CutProofs y = Models.negativeRights(1, 2, 4, 8, 16, 9);
        EXPECT.due("40", 40, y.find(0));
        EXPECT.due("all of 40, and more sets that give the same", 1, y.closed());
        EXPECT.due("none more", 0, y.find(0));
        EXPECT.due("none was to be taken", 1, y.closed());
        CutProofs z = Models.negativeRights(1, 2, 4, 8, 16, 10);
        EXPECT.due("40 of 41", 40, z.find(0));
        EXPECT.due("one more was", 0, z.closed());
        EXPECT.due("not one of it", 0, z.find(0));
        EXPECT.due("one more was", 0, z.closed());
        y.plant(39, 1, 0, -1000);
        EXPECT.due("what was told otherwise has no room", 0, y.find(0));
        EXPECT.due("one more was", 0, y.closed());
        y.plant(39, 1, 0, -40);
        EXPECT.due("told as before", 0, y.find(0));
        EXPECT.due("none was", 1, y.closed());
        CutProofs w = Models.negativeRights(1, 2, 4, 8, 16, 9);
        w.row(9999);
        EXPECT.due("sets with the last row are not broken", 40, w.find(0));
        EXPECT.due("they were not to be taken", 1, w.closed());
    }

    /** "the latest find() ..; 1 before, and behind clear()" */
    private static void closedStays() {
        CutProofs x = Models.negativeRights(1, 2, 4, 8, 16, 10);
        x.find(0);
        EXPECT.due("find(-1)", -2, x.find(-1));
        EXPECT.due("a refused find is none", 0, x.closed());
        x.plant(0, 1, 0, 1000);
        for (int t = 0; t < 3; t++) {
            EXPECT.due("closed behind turns", 0, x.closed());
            x.turn();
        }
        EXPECT.due("one has gone", 39, x.told(2));
        EXPECT.due("the latest find is as it was", 0, x.closed());
        EXPECT.due("-1 takes its room", 1, x.find(0));
        EXPECT.due("-41 has none", 0, x.closed());
        EXPECT.due("find(3)", 0, x.find(3));
        EXPECT.due("no cliques were to be taken", 1, x.closed());
        x.find(0);
        EXPECT.due("closed()", 0, x.closed());
        x.clear();
        EXPECT.due("behind clear()", 1, x.closed());
    }
}
