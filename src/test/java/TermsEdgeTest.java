/** "Terms": the greatest numbers, the ranges, and each "not above" at its edge, one test a sentence. */
public final class TermsEdgeTest {
    private static final Expect EXPECT = new Expect();

    public static void main(String[] args) {
        eightNames();
        lowsAndHighs();
        highNotBelowLow();
        tenRows();
        rights();
        factorsInRange();
        factorsAreZeroAtFirst();
        plansFromLowToHigh();
        sumsNotAboveTheRight();
        eachRowBoundsPlans();
        plansOfSeveralNames();
        pointIsZeroAtFirst();
        leasts();
        binaries();
        keeps();
        broken();
        fortyCuts();
        EXPECT.end();
    }

    /** "NAMES 0, 1, .. (8 at most)" */
    private static void eightNames() {
        CutProofs x = new CutProofs();
        x.row(0);
        for (int n = 0; n < 8; n++) {
            EXPECT.due("no such name yet", -1, x.factor(0, n, 1));
            EXPECT.due("name", n, x.name(0, 1));
            EXPECT.due("there it is", 0, x.factor(0, n, 1));
        }
        EXPECT.due("a ninth", -4, x.name(0, 1));
        EXPECT.due("a ninth", -4, x.name(-30, 30));
        EXPECT.due("told(0)", 8, x.told(0));
        EXPECT.due("factor of a ninth", -1, x.factor(0, 8, 1));
    }

    /** "have a LOW and a HIGH (- 30 to 30)" */
    private static void lowsAndHighs() {
        int[][] refused = {{-31, -30}, {-31, -31}, {-31, 30}, {30, 31}, {31, 31}, {-30, 31}, {-31, 31},
            {Integer.MIN_VALUE, 0}, {0, Integer.MAX_VALUE}, {Integer.MIN_VALUE, Integer.MAX_VALUE}};
        int[][] allowed = {{-30, -30}, {-30, -29}, {29, 30}, {30, 30}, {-30, 30}, {0, 0}};
        CutProofs x = new CutProofs();
        for (int[] b : refused) {
            EXPECT.due("name(" + b[0] + ", " + b[1] + ")", -2, x.name(b[0], b[1]));
        }
        EXPECT.due("told(0)", 0, x.told(0));
        for (int n = 0; n < allowed.length; n++) {
            EXPECT.due("name(" + allowed[n][0] + ", " + allowed[n][1] + ")", n, x.name(allowed[n][0], allowed[n][1]));
        }
        EXPECT.due("1 * 2 * 2 * 1 * 61 * 1", 244, x.plans());
    }

    /** "or high below low" */
    private static void highNotBelowLow() {
        CutProofs x = new CutProofs();
        int[] lows = {-30, -1, 0, 1, 30};
        for (int low : lows) {
            EXPECT.due("one below", -2, x.name(low, low - 1));
        }
        EXPECT.due("far below", -2, x.name(30, -30));
        EXPECT.due("told(0)", 0, x.told(0));
        for (int n = 0; n < lows.length; n++) {
            EXPECT.due("the same", n, x.name(lows[n], lows[n]));
        }
        EXPECT.due("one number each", 1, x.plans());
    }

    /** "ROWS 0, 1, .. (10 at most)" */
    private static void tenRows() {
        CutProofs x = new CutProofs();
        x.name(0, 1);
        for (int r = 0; r < 10; r++) {
            EXPECT.due("no such row yet", -1, x.factor(r, 0, 1));
            EXPECT.due("row", r, x.row(r));
            EXPECT.due("there it is", 0, x.factor(r, 0, 1));
        }
        EXPECT.due("an eleventh", -4, x.row(0));
        EXPECT.due("an eleventh", -4, x.row(-9999));
        EXPECT.due("told(1)", 10, x.told(1));
        EXPECT.due("factor of an eleventh", -1, x.factor(10, 0, 1));
    }

    /** "have a RIGHT (- 9999 to 9999)" */
    private static void rights() {
        CutProofs x = new CutProofs();
        for (int right : new int[] {-10000, 10000, Integer.MIN_VALUE, Integer.MAX_VALUE}) {
            EXPECT.due("row(" + right + ")", -2, x.row(right));
        }
        EXPECT.due("told(1)", 0, x.told(1));
        EXPECT.due("row(9999)", 0, x.row(9999));
        EXPECT.due("0 is not above it", 1, x.plans());
        EXPECT.due("row(-9999)", 1, x.row(-9999));
        EXPECT.due("0 is above it", 0, x.plans());
        EXPECT.due("find(0)", 1, x.find(0));
        EXPECT.wholeCut(x, 0, 0, -5000);
        EXPECT.due("row 1 alone", 0, x.proof(0, 0, 0));
        EXPECT.due("row 1 alone", 1, x.proof(0, 0, 1));
    }

    /** "for each NAME a FACTOR (- 50 to 50 ..)" */
    private static void factorsInRange() {
        CutProofs x = new CutProofs();
        x.name(-1, 1);
        x.row(49);
        for (int v : new int[] {-51, 51, Integer.MIN_VALUE, Integer.MAX_VALUE}) {
            EXPECT.due("factor(0, 0, " + v + ")", -2, x.factor(0, 0, v));
        }
        EXPECT.due("factor(0, 0, -50)", 0, x.factor(0, 0, -50));
        EXPECT.due("50 is above 49", 2, x.plans());
        EXPECT.due("factor(0, 0, 50)", -50, x.factor(0, 0, 50));
        EXPECT.due("50 is above 49", 2, x.plans());
        EXPECT.due("factor(0, 0, 49)", 50, x.factor(0, 0, 49));
        EXPECT.due("49 is not", 3, x.plans());
    }

    /** "(.. 0 at first)", of a new ROW over old NAMES and of a new NAME in old ROWS */
    private static void factorsAreZeroAtFirst() {
        CutProofs x = new CutProofs();
        x.name(0, 1);
        x.row(5);
        x.factor(0, 0, 7);
        x.name(0, 1);
        x.row(6);
        EXPECT.due("set", 7, x.factor(0, 0, 7));
        EXPECT.due("a new name in an old row", 0, x.factor(0, 1, 0));
        EXPECT.due("an old name in a new row", 0, x.factor(1, 0, 0));
        EXPECT.due("both new", 0, x.factor(1, 1, 0));
    }

    /** "A PLAN is a whole number for each NAME, from its LOW to its HIGH" */
    private static void plansFromLowToHigh() {
        for (int low = -30; low <= 30; low += 15) {
            for (int high = low; high <= 30; high++) {
                CutProofs x = new CutProofs();
                x.name(low, high);
                EXPECT.due("plans of " + low + " .. " + high, high - low + 1, x.plans());
            }
        }
    }

    /** "the sum of FACTORS times these is not above its RIGHT" */
    private static void sumsNotAboveTheRight() {
        plansAt(1, 30, 61);
        plansAt(1, 29, 60);
        plansAt(1, -30, 1);
        plansAt(1, -31, 0);
        plansAt(-1, -30, 1);
        plansAt(-1, -31, 0);
        plansAt(50, 1500, 61);
        plansAt(50, 1499, 60);
        plansAt(50, -1500, 1);
        plansAt(50, -1501, 0);
        plansAt(-50, 1499, 60);
        plansAt(-50, -1, 30);
        plansAt(0, 0, 61);
        plansAt(0, -1, 0);
        plansAt(3, -8, 28);
        plansAt(3, -9, 28);
        plansAt(3, -10, 27);
    }

    private static void plansAt(int factor, int right, int want) {
        CutProofs x = new CutProofs();
        x.name(-30, 30);
        Models.addRow(x, right, factor);
        EXPECT.due("plans with " + factor + " times it not above " + right, want, x.plans());
    }

    /** "such that in each ROW" */
    private static void eachRowBoundsPlans() {
        CutProofs x = new CutProofs();
        x.name(-30, 30);
        for (int r = 0; r < 10; r++) {
            EXPECT.due("a row that bounds nothing yet", r, x.row(20 - r));
            EXPECT.due("only the rows before bound", r == 0 ? 61 : 30 + 20 - (r - 1) + 1, x.plans());
            x.factor(r, 0, 1);
            EXPECT.due("the last row bounds most", 30 + 20 - r + 1, x.plans());
        }
    }

    /** Names that can not be 0, and every choice of the others for each number of one */
    private static void plansOfSeveralNames() {
        CutProofs x = new CutProofs();
        x.name(5, 9);
        x.name(-9, -5);
        x.name(0, 1);
        Models.addRow(x, 0, 1, 1, 1);
        EXPECT.due("15 with 0, 10 with 1", 25, x.plans());
        x.factor(0, 2, 0);
        EXPECT.due("15 with either", 30, x.plans());
        Models.addRow(x, 5, 1, 0, 0);
        EXPECT.due("5, with each of the others", 10, x.plans());
        x.factor(1, 0, -1);
        x.factor(0, 1, -1);
        EXPECT.due("no sum of 10 or more is left", 0, x.plans());
    }

    /** "The POINT is a fraction for each NAME (0 at first)." */
    private static void pointIsZeroAtFirst() {
        CutProofs x = new CutProofs();
        for (int n = 0; n < 8; n++) {
            x.name(n, 30);
        }
        x.row(-1);
        EXPECT.due("find(0)", 1, x.find(0));
        for (int n = 0; n < 8; n++) {
            x.plant(0, 0, n, 1000);
        }
        EXPECT.strength(x, 0, 0, "1");
        EXPECT.strength(x, 0, 1, "1");
        x.point(7, 1, 12);
        EXPECT.strength(x, 0, 0, "253");
        EXPECT.strength(x, 0, 1, "3");
    }

    /** "the least that its FACTOR times a number from LOW to HIGH can be" */
    private static void leasts() {
        leastIs(-4, -2, 3, 2);
        leastIs(-6, -2, 3, -2);
        leastIs(0, -2, 3, 0);
        leastIs(12, 4, 4, 3);
        leastIs(-12, 4, 4, -3);
        leastIs(6, 3, 5, 2);
        leastIs(-10, 3, 5, -2);
        leastIs(-10, -5, -3, 2);
        leastIs(6, -5, -3, -2);
        leastIs(-1500, -30, 30, 50);
        leastIs(-1500, -30, 30, -50);
        leastIs(1500, 30, 30, 50);
        leastIs(0, 0, 1, 7);
        leastIs(-7, 0, 1, -7);
        CutProofs x = new CutProofs();
        x.name(-2, 3);
        x.name(0, 1);
        x.name(0, 1);
        x.name(1, 4);
        Models.addRow(x, -7, 2, 1, 1, -1);
        Models.pointAll(x, 3, 1, 1);
        EXPECT.due("-4 + 1 + 1 - 4 is above -7", 1, x.find(3));
        CutProofs y = new CutProofs();
        y.name(-2, 3);
        y.name(0, 1);
        y.name(0, 1);
        y.name(1, 4);
        Models.addRow(y, -6, 2, 1, 1, -1);
        Models.pointAll(y, 3, 1, 1);
        EXPECT.due("it is not above -6", 0, y.find(3));
    }

    /** Two names with 1 each clash beside the third if 2 and its least are above the right. */
    private static void leastIs(int least, int low, int high, int factor) {
        String text = "least of " + factor + " times " + low + " .. " + high;
        EXPECT.due(text + " is not less", 1, clashesAt(least + 1, low, high, factor));
        EXPECT.due(text + " is not more", 0, clashesAt(least + 2, low, high, factor));
    }

    private static int clashesAt(int right, int low, int high, int factor) {
        CutProofs x = Models.binaries(2);
        x.name(low, high);
        Models.addRow(x, right, 1, 1, factor);
        Models.pointAll(x, 2, 1, 1);
        x.find(3);
        for (int k = 0; k < x.told(2); k++) {
            if (x.cut(k, 0, 0) == 1 && x.cut(k, 0, 1) == 1) return 1;
        }
        return 0;
    }

    /** "A NAME is BINARY if its LOW is 0 and its HIGH 1." */
    private static void binaries() {
        int[][] bounds = {{0, 1}, {0, 0}, {1, 1}, {0, 2}, {-1, 1}, {-1, 0}, {1, 2}, {-30, 30}};
        for (int[] b : bounds) {
            int binary = b[0] == 0 && b[1] == 1 ? 1 : 0;
            String text = b[0] + " .. " + b[1];
            CutProofs x = new CutProofs();
            x.name(b[0], b[1]);
            x.point(0, 1, 1);
            Models.addRow(x, 0, 1);
            EXPECT.due("a literal: " + text, binary, x.find(2));
            CutProofs y = Models.binaries(2);
            y.name(b[0], b[1]);
            Models.addRow(y, -31, 1, 1, 1);
            Models.pointAll(y, 3, 1, 1);
            EXPECT.due("one clique: " + text, 1, y.find(3));
            EXPECT.wholeCut(y, 0, 3, 1, 1, 1, binary);
        }
    }

    /** A name 0 .. 3, twice it not above 5: plans 0, 1, 2, and one cut, the name not above 2. */
    private static CutProofs upToTwo(int above, int below) {
        CutProofs x = new CutProofs();
        x.name(0, 3);
        Models.addRow(x, 5, 2);
        x.point(0, above, below);
        return x;
    }

    /** "A PLAN KEEPS it if its sum is not above its RIGHT." */
    private static void keeps() {
        CutProofs x = upToTwo(5, 2);
        x.find(1);
        EXPECT.wholeCut(x, 0, 1, 2, 1);
        EXPECT.due("2 is not above 2", 1, x.holds(0));
        x.plant(0, 1, 0, 1);
        EXPECT.due("2 is above 1", 0, x.holds(0));
        x.plant(0, 0, 0, -1);
        x.plant(0, 1, 0, 0);
        EXPECT.due("0 is not above 0", 1, x.holds(0));
        x.plant(0, 1, 0, -1);
        EXPECT.due("0 is above -1", 0, x.holds(0));
        x.plant(0, 0, 0, 1000);
        x.plant(0, 1, 0, 1000);
        EXPECT.due("2000 is above 1000", 0, x.holds(0));
        x.plant(0, 0, 0, 500);
        EXPECT.due("1000 is not", 1, x.holds(0));
        CutProofs y = Models.binaries(8);
        Models.addRow(y, 7, 1, 1, 1, 1, 1, 1, 1, 1);
        Models.pointAll(y, 8, 1, 1);
        EXPECT.due("find(2)", 1, y.find(2));
        EXPECT.due("255 plans", 255, y.plans());
        EXPECT.due("each of eight names", 1, y.holds(0));
        y.plant(0, 1, 0, 6);
        EXPECT.due("eight of them do not", 0, y.holds(0));
        CutProofs w = new CutProofs();
        w.name(5, 9);
        Models.addRow(w, 13, 2);
        w.point(0, 13, 2);
        w.find(1);
        EXPECT.wholeCut(w, 0, 1, 6, 1);
        w.plant(0, 0, 0, -1);
        w.plant(0, 1, 0, -5);
        EXPECT.due("-5 and -6 are not above -5", 1, w.holds(0));
        w.plant(0, 1, 0, -6);
        EXPECT.due("-5 is above -6", 0, w.holds(0));
        w.plant(0, 0, 0, 1);
        w.plant(0, 1, 0, 6);
        EXPECT.due("5 and 6 are not above 6", 1, w.holds(0));
        CutProofs z = Models.binaries(8);
        Models.addRow(z, 9999, 50);
        z.point(0, 400, 1);
        EXPECT.due("a cut that bars no choice", 1, z.find(0));
        for (int n = 0; n < 8; n++) {
            z.plant(0, 0, n, 1);
        }
        z.plant(0, 1, 0, 7);
        EXPECT.due("of 256 choices one does not, all ones", 0, z.holds(0));
        z.plant(0, 1, 0, 8);
        EXPECT.due("8 is not above 8", 1, z.holds(0));
    }

    /** "it is BROKEN if that is above 0" */
    private static void broken() {
        EXPECT.due("a strength of 0", 0, upToTwo(2, 1).find(1));
        EXPECT.due("a strength of 0", 0, upToTwo(24, 12).find(1));
        EXPECT.due("a strength of -1 / 12", 0, upToTwo(23, 12).find(1));
        CutProofs x = upToTwo(25, 12);
        EXPECT.due("a strength of 1 / 12", 1, x.find(1));
        EXPECT.due("broken", 1, x.told(3));
        x.point(0, 23, 11);
        EXPECT.due("1 / 11", 1, x.told(3));
        x.point(0, 2, 1);
        EXPECT.due("0", 0, x.told(3));
        x.point(0, 21, 11);
        EXPECT.due("-1 / 11", 0, x.told(3));
        EXPECT.due("it stays a cut", 1, x.told(2));
        CutProofs y = fiveOfRight(2, new int[] {1, 5, 4, 3, 1});
        EXPECT.due("1 / 8 + 5 / 9 + 4 / 5 + 3 / 7 + 1 / 11 is above 2", 1, y.find(2));
        EXPECT.wholeCut(y, 0, 2, 2, 1, 1, 1, 1, 1);
        EXPECT.strength(y, 0, 0, "1");
        EXPECT.strength(y, 0, 1, "27720");
        EXPECT.due("by the least that can be", 1, y.told(3));
        EXPECT.due("no turn older", 0, y.turn() + y.cut(0, 3, 0));
        CutProofs z = fiveOfRight(3, new int[] {7, 4, 1, 4, 10});
        EXPECT.due("7 / 8 + 4 / 9 + 1 / 5 + 4 / 7 + 10 / 11 is below 3", 0, z.find(2));
    }

    /** The sum of five names not above a right; their points are over 8, 9, 5, 7, 11. */
    private static CutProofs fiveOfRight(int right, int[] aboves) {
        CutProofs x = Models.binaries(5);
        Models.addRow(x, right, 1, 1, 1, 1, 1);
        int[] belows = {8, 9, 5, 7, 11};
        for (int n = 0; n < 5; n++) {
            x.point(n, aboves[n], belows[n]);
        }
        return x;
    }

    /** "CUTS are numbered 0, 1, .. as they are taken, 40 at most." */
    private static void fortyCuts() {
        CutProofs x = Models.negativeRights(1, 2, 4, 8, 16, 32, 64);
        EXPECT.due("of 127", 40, x.find(0));
        EXPECT.due("told(2)", 40, x.told(2));
        for (int k = 0; k < 40; k++) {
            EXPECT.cut(x, k, 1, 0, Integer.toString(-(k + 1)));
        }
        EXPECT.cut(x, 40, 1, 0, Answers.NO_INDEX);
        EXPECT.due("-64 of the last row has no room", 0, x.find(1));
        EXPECT.due("it was to be taken", 0, x.closed());
        EXPECT.due("told(2)", 40, x.told(2));
    }
}
