/** "3 THE CHECKER", with promise 11: each thing that it asks for, at its edge, one test a sentence. */
public final class CheckerEdgeTest {
    private static final Expect EXPECT = new Expect();

    public static void main(String[] args) {
        noSuchCut();
        divisorOneAtLeast();
        nothingLessThanZeroTimes();
        factorTimesDivisor();
        lessAsOftenAsTheLow();
        rightNotBelow();
        rightRoundedDown();
        farthestNumbers();
        coverRowIsThere();
        coverNamesAreBinary();
        coverChoicesOfTheRow();
        coverSumNotAbove();
        coverWithoutChoices();
        coverOfAllNames();
        cliqueFactors();
        cliqueRight();
        cliqueNamesAreBinary();
        cliqueNamesClash();
        cliqueOfOneOrNone();
        shownAlone();
        EXPECT.end();
    }

    private static void plantAndCheck(CutProofs x, int what, int i, int v, int want) {
        String text = "plant(0, " + what + ", " + i + ", " + v + ")";
        EXPECT.due(text, 1, x.plant(0, what, i, v));
        EXPECT.due("check(0) behind " + text, want, x.check(0));
    }

    /** "NONE" */
    private static void noSuchCut() {
        CutProofs x = Models.negativeRights(1, 2, 4, 8, 16, 32);
        EXPECT.due("no cut yet", -1, x.check(0));
        x.find(0);
        for (int k : new int[] {-1, 40, 41, Integer.MIN_VALUE, Integer.MAX_VALUE}) {
            EXPECT.due("check(" + k + ")", -1, x.check(k));
        }
        EXPECT.due("the first", 1, x.check(0));
        EXPECT.due("the last", 1, x.check(39));
    }

    /** Two rows without factors over a name -3 .. 4; the cut: 0 not above -4, of row 0 once by 2. */
    private static CutProofs emptyRows() {
        CutProofs x = new CutProofs();
        x.name(-3, 4);
        x.row(-7);
        x.row(5);
        x.find(0);
        EXPECT.wholeCut(x, 0, 0, -4, 0);
        return x;
    }

    /** "if D is 1 at least" */
    private static void divisorOneAtLeast() {
        CutProofs x = emptyRows();
        plantAndCheck(x, 5, 0, 1, 1);
        plantAndCheck(x, 1, 0, -8, 0);
        plantAndCheck(x, 1, 0, -7, 1);
        plantAndCheck(x, 5, 0, 0, 0);
        plantAndCheck(x, 5, 0, -1, 0);
        plantAndCheck(x, 5, 0, -1000, 0);
        plantAndCheck(x, 1, 0, 1000, 0);
        plantAndCheck(x, 5, 0, 1, 1);
        plantAndCheck(x, 5, 0, 1000, 1);
    }

    /** "nothing was taken less than 0 times" */
    private static void nothingLessThanZeroTimes() {
        CutProofs x = emptyRows();
        x.plant(0, 1, 0, 1000);
        plantAndCheck(x, 2, 1, 0, 1);
        plantAndCheck(x, 2, 1, -1, 0);
        plantAndCheck(x, 2, 1, 1, 1);
        plantAndCheck(x, 2, 0, -1, 0);
        plantAndCheck(x, 2, 0, 0, 1);
        x.plant(0, 5, 0, 1);
        x.plant(0, 0, 0, 1);
        plantAndCheck(x, 3, 0, -1, 0);
        x.plant(0, 0, 0, -1);
        plantAndCheck(x, 3, 0, 1, 1);
        x.plant(0, 3, 0, 0);
        plantAndCheck(x, 4, 0, -1, 0);
        x.plant(0, 0, 0, 1);
        plantAndCheck(x, 4, 0, 1, 1);
        x.plant(0, 0, 0, 0);
        plantAndCheck(x, 3, 0, 1, 1);
        x.plant(0, 3, 0, -1);
        plantAndCheck(x, 4, 0, -1, 0);
    }

    /** Of eight names and ten rows the last ones are read as the first */
    private static CutProofs allNamesAndRows() {
        CutProofs x = new CutProofs();
        for (int n = 0; n < 8; n++) {
            x.name(-1, 1);
        }
        for (int r = 0; r < 10; r++) {
            x.row(-1);
        }
        x.find(1);
        EXPECT.wholeCut(x, 0, 1, -1, 0, 0, 0, 0, 0, 0, 0, 0);
        x.plant(0, 1, 0, 1000);
        EXPECT.due("check(0)", 1, x.check(0));
        return x;
    }

    /** "each FACTOR times D is what comes for that NAME of the ROWS" */
    private static void factorTimesDivisor() {
        CutProofs x = allNamesAndRows();
        for (int n = 0; n < 8; n++) {
            plantAndCheck(x, 0, n, 1, 0);
            plantAndCheck(x, 0, n, -1, 0);
            plantAndCheck(x, 0, n, 0, 1);
        }
        for (int r = 0; r < 10; r++) {
            plantAndCheck(x, 2, r, 1, 1);
            plantAndCheck(x, 2, r, -1, 0);
            plantAndCheck(x, 2, r, 0, 1);
        }
        CutProofs y = new CutProofs();
        y.name(0, 3);
        Models.addRow(y, 5, 2);
        Models.addRow(y, 5, -3);
        y.point(0, 3, 1);
        y.find(1);
        EXPECT.wholeCut(y, 0, 1, 2, 1);
        EXPECT.due("2 is 1 times 2", 1, y.check(0));
        plantAndCheck(y, 5, 0, 1, 0);
        plantAndCheck(y, 5, 0, 3, 0);
        plantAndCheck(y, 5, 0, 2, 1);
        plantAndCheck(y, 0, 0, 2, 0);
        plantAndCheck(y, 0, 0, 1, 1);
        plantAndCheck(y, 2, 0, 2, 0);
        plantAndCheck(y, 2, 1, 1, 0);
        y.plant(0, 1, 0, 1000);
        plantAndCheck(y, 0, 0, 0, 0);
        plantAndCheck(y, 2, 0, 3, 0);
        plantAndCheck(y, 2, 1, 2, 1);
    }

    /** "less as often as its LOW, more as often as its HIGH was taken" */
    private static void lessAsOftenAsTheLow() {
        CutProofs x = allNamesAndRows();
        for (int n = 0; n < 8; n++) {
            plantAndCheck(x, 3, n, 2, 0);
            plantAndCheck(x, 0, n, -1, 1);
            plantAndCheck(x, 4, n, 2, 0);
            plantAndCheck(x, 0, n, 0, 1);
            plantAndCheck(x, 3, n, 0, 0);
            plantAndCheck(x, 0, n, 1, 1);
        }
    }

    /** "the RIGHT is not below what comes for it": of the ROWS, less LOWS, more HIGHS */
    private static void rightNotBelow() {
        CutProofs x = emptyRows();
        x.plant(0, 5, 0, 1);
        plantAndCheck(x, 1, 0, -8, 0);
        plantAndCheck(x, 1, 0, -7, 1);
        plantAndCheck(x, 2, 1, 3, 0);
        plantAndCheck(x, 1, 0, 7, 0);
        plantAndCheck(x, 1, 0, 8, 1);
        x.plant(0, 0, 0, -2);
        plantAndCheck(x, 3, 0, 2, 0);
        plantAndCheck(x, 1, 0, 13, 0);
        plantAndCheck(x, 1, 0, 14, 1);
        x.plant(0, 0, 0, 1);
        plantAndCheck(x, 4, 0, 3, 0);
        plantAndCheck(x, 1, 0, 25, 0);
        plantAndCheck(x, 1, 0, 26, 1);
        plantAndCheck(x, 1, 0, 27, 1);
    }

    /** "divided by D and rounded down" */
    private static void rightRoundedDown() {
        CutProofs x = emptyRows();
        int[] downs = {-7, -4, -3, -2, -2, -2, -1, -1, -1};
        for (int d = 1; d <= 9; d++) {
            x.plant(0, 5, 0, d);
            plantAndCheck(x, 1, 0, downs[d - 1], 1);
            plantAndCheck(x, 1, 0, downs[d - 1] - 1, 0);
        }
        x.plant(0, 5, 0, 1000);
        plantAndCheck(x, 1, 0, -1, 1);
        plantAndCheck(x, 1, 0, -2, 0);
        x.plant(0, 2, 0, 0);
        x.plant(0, 2, 1, 1);
        plantAndCheck(x, 1, 0, -1, 0);
        plantAndCheck(x, 1, 0, 0, 1);
        x.plant(0, 5, 0, 6);
        plantAndCheck(x, 1, 0, 0, 1);
        x.plant(0, 5, 0, 5);
        plantAndCheck(x, 1, 0, 0, 0);
        plantAndCheck(x, 1, 0, 1, 1);
    }

    /** All numbers as far out as they may be told: nothing wraps around. */
    private static void farthestNumbers() {
        CutProofs x = new CutProofs();
        for (int n = 0; n < 8; n++) {
            x.name(-30, 30);
        }
        for (int r = 0; r < 10; r++) {
            Models.addRow(x, r == 0 ? -9999 : 9999, 50, 50, 50, 50, 50, 50, 50, 50);
        }
        EXPECT.due("row 0, by 2 first", 1, x.find(1) > 0 ? 1 : 0);
        for (int r = 0; r < 10; r++) {
            x.plant(0, 2, r, 1000);
        }
        for (int n = 0; n < 8; n++) {
            x.plant(0, 3, n, 1000);
            x.plant(0, 4, n, 1000);
            x.plant(0, 0, n, 500);
        }
        x.plant(0, 5, 0, 1000);
        x.plant(0, 1, 0, 1000);
        EXPECT.due("500 times 1000 is 10 times 50 times 1000; 8 * 9999 + 480 is above 1000", 0, x.check(0));
        for (int r = 2; r < 10; r++) {
            x.plant(0, 2, r, 0);
        }
        for (int n = 0; n < 8; n++) {
            x.plant(0, 0, n, 100);
        }
        EXPECT.due("rows 0 and 1 come to 0, lows and highs to 480", 1, x.check(0));
        x.plant(0, 1, 0, 480);
        EXPECT.due("480 is not below 480", 1, x.check(0));
        x.plant(0, 1, 0, 479);
        EXPECT.due("479 is below 480", 0, x.check(0));
    }

    /** Rows 0 and 1 are 3 a + 3 b + 3 c + 6 d + e not above 8 and not above 0, row 2 holds for none. */
    private static CutProofs covered() {
        CutProofs x = Models.binaries(4);
        x.name(0, 2);
        Models.addRow(x, 8, 3, 3, 3, 6, 1);
        Models.addRow(x, 0, 3, 3, 3, 6, 1);
        x.row(-1);
        Models.pointAll(x, 4, 2, 3);
        x.find(2);
        EXPECT.wholeCut(x, 0, 2, 2, 1, 1, 1, 2, 0);
        EXPECT.due("row", 0, x.proof(0, 0, 0));
        EXPECT.due("check(0)", 1, x.check(0));
        return x;
    }

    /** "if its ROW is there" */
    private static void coverRowIsThere() {
        CutProofs x = covered();
        plantAndCheck(x, 2, 0, -1, 0);
        plantAndCheck(x, 2, 0, 0, 1);
        plantAndCheck(x, 2, 0, 2, 1);
        plantAndCheck(x, 2, 0, 3, 0);
        plantAndCheck(x, 2, 0, 9, 0);
        plantAndCheck(x, 2, 0, 10, 0);
        plantAndCheck(x, 2, 0, 1000, 0);
        plantAndCheck(x, 2, 0, -1000, 0);
        plantAndCheck(x, 2, 0, 1, 1);
    }

    /** "all NAMES with a FACTOR in the CUT that is not 0 are BINARY" */
    private static void coverNamesAreBinary() {
        CutProofs x = covered();
        plantAndCheck(x, 0, 4, 1, 0);
        plantAndCheck(x, 0, 4, -1, 0);
        plantAndCheck(x, 1, 0, 1000, 0);
        plantAndCheck(x, 2, 0, 2, 0);
        plantAndCheck(x, 0, 4, 0, 1);
    }

    /** "with which the ROW's sum, with the LEASTS of all other NAMES, is not above its RIGHT" */
    private static void coverChoicesOfTheRow() {
        for (int right = 4; right <= 8; right++) {
            CutProofs x = Models.binaries(2);
            x.name(-1, 1);
            x.name(0, 1);
            Models.addRow(x, right - 2, 3, 4, 2, 0);
            Models.addRow(x, 0, 1, 0, 0, 0);
            Models.pointAll(x, 2, 1, 1);
            x.find(2);
            int last = x.told(2) - 1;
            x.plant(last, 2, 0, 0);
            x.plant(last, 0, 0, 1);
            x.plant(last, 0, 1, 1);
            x.plant(last, 1, 0, 1);
            EXPECT.due("both are 7, the right with the least away " + right, right < 7 ? 1 : 0, x.check(last));
            x.plant(last, 0, 3, 1);
            EXPECT.due("each and a name that the row does not know", 0, x.check(last));
        }
    }

    /** "the CUT's sum is not above the CUT's" */
    private static void coverSumNotAbove() {
        CutProofs x = covered();
        plantAndCheck(x, 0, 3, 3, 0);
        plantAndCheck(x, 1, 0, 3, 1);
        plantAndCheck(x, 0, 3, 2, 1);
        plantAndCheck(x, 1, 0, 2, 1);
        plantAndCheck(x, 1, 0, 1, 0);
        for (int n = 0; n < 4; n++) {
            x.plant(0, 0, n, -1);
        }
        plantAndCheck(x, 1, 0, 0, 1);
        plantAndCheck(x, 1, 0, -1, 0);
        for (int n = 0; n < 4; n++) {
            x.plant(0, 0, n, 1000);
        }
        plantAndCheck(x, 1, 0, 1000, 0);
        plantAndCheck(x, 2, 0, 1, 1);
        plantAndCheck(x, 1, 0, 0, 1);
        plantAndCheck(x, 1, 0, -1, 0);
    }

    /** "for each choice of 0 and 1 for these": of no name there is one, and of a row like row 2 none that counts */
    private static void coverWithoutChoices() {
        CutProofs x = covered();
        for (int n = 0; n < 4; n++) {
            x.plant(0, 0, n, 0);
        }
        plantAndCheck(x, 1, 0, 0, 1);
        plantAndCheck(x, 1, 0, -1, 0);
        plantAndCheck(x, 2, 0, 2, 1);
        plantAndCheck(x, 1, 0, -1000, 1);
    }

    private static void coverOfAllNames() {
        CutProofs x = Models.binaries(8);
        Models.addRow(x, 7, 1, 1, 1, 1, 1, 1, 1, 1);
        Models.pointAll(x, 8, 1, 1);
        x.find(2);
        EXPECT.due("check(0)", 1, x.check(0));
        plantAndCheck(x, 1, 0, 6, 0);
        plantAndCheck(x, 1, 0, 7, 1);
        plantAndCheck(x, 0, 7, 2, 0);
        plantAndCheck(x, 1, 0, 8, 1);
        plantAndCheck(x, 0, 0, 2, 0);
    }

    /** Names 0, 1, 2 clash two by two, each two in a row of their own; 3 clashes with 0 alone; 4 is 0 .. 2. */
    private static CutProofs clashing() {
        CutProofs x = Models.binaries(4);
        x.name(0, 2);
        Models.addRow(x, 1, 1, 1, 0, 0, 0);
        Models.addRow(x, 1, 0, 1, 1, 0, 0);
        Models.addRow(x, 1, 1, 0, 1, 0, 0);
        Models.addRow(x, 1, 1, 0, 0, 1, 1);
        Models.pointAll(x, 3, 1, 2);
        EXPECT.due("find(3)", 1, x.find(3));
        EXPECT.wholeCut(x, 0, 3, 1, 1, 1, 1, 0, 0);
        EXPECT.due("check(0)", 1, x.check(0));
        return x;
    }

    /** "if its FACTORS are 0 and 1" */
    private static void cliqueFactors() {
        CutProofs x = clashing();
        plantAndCheck(x, 0, 2, 2, 0);
        plantAndCheck(x, 0, 2, -1, 0);
        plantAndCheck(x, 0, 2, 0, 1);
        plantAndCheck(x, 0, 0, 2, 0);
        plantAndCheck(x, 0, 0, 1, 1);
        plantAndCheck(x, 0, 4, -1, 0);
        plantAndCheck(x, 0, 4, 0, 1);
    }

    /** "its RIGHT is 1 or more" */
    private static void cliqueRight() {
        CutProofs x = clashing();
        plantAndCheck(x, 1, 0, 0, 0);
        plantAndCheck(x, 1, 0, -1000, 0);
        plantAndCheck(x, 1, 0, 1000, 1);
        plantAndCheck(x, 1, 0, 2, 1);
        plantAndCheck(x, 1, 0, 1, 1);
    }

    /** "the NAMES with 1 are BINARY" */
    private static void cliqueNamesAreBinary() {
        CutProofs x = clashing();
        plantAndCheck(x, 0, 4, 1, 0);
        for (int n = 0; n < 3; n++) {
            plantAndCheck(x, 0, n, 0, 0);
        }
        plantAndCheck(x, 0, 4, 0, 1);
    }

    /** "and each two of these CLASH in a ROW" */
    private static void cliqueNamesClash() {
        CutProofs x = clashing();
        plantAndCheck(x, 0, 3, 1, 0);
        plantAndCheck(x, 0, 1, 0, 0);
        plantAndCheck(x, 0, 2, 0, 1);
        plantAndCheck(x, 0, 0, 0, 1);
        plantAndCheck(x, 0, 1, 1, 0);
        CutProofs y = Models.binaries(3);
        Models.addRow(y, 1, 1, 0, 1);
        Models.addRow(y, 1, 0, 1, 1);
        Models.pointAll(y, 3, 1, 1);
        EXPECT.due("{0, 2}, {1, 2}", 2, y.find(3));
        EXPECT.due("check(0)", 1, y.check(0));
        plantAndCheck(y, 0, 1, 1, 0);
        plantAndCheck(y, 0, 2, 0, 0);
        plantAndCheck(y, 0, 1, 0, 1);
    }

    private static void cliqueOfOneOrNone() {
        CutProofs x = clashing();
        plantAndCheck(x, 0, 0, 0, 1);
        plantAndCheck(x, 0, 1, 0, 1);
        plantAndCheck(x, 0, 2, 0, 1);
        plantAndCheck(x, 1, 0, 0, 0);
        CutProofs y = Models.binaries(3);
        Models.addRow(y, 1, 1, 1, 0);
        Models.pointAll(y, 2, 1, 1);
        EXPECT.due("{0, 1}", 1, y.find(3));
        plantAndCheck(y, 0, 0, 0, 1);
        plantAndCheck(y, 0, 2, 1, 0);
        plantAndCheck(y, 0, 1, 0, 1);
    }

    /** "a checker reads what is shown alone": neither the POINT nor whether plans keep the cut counts. */
    private static void shownAlone() {
        CutProofs x = clashing();
        x.point(0, -400, 1);
        EXPECT.due("no longer broken", 0, x.told(3));
        EXPECT.due("accepted", 1, x.check(0));
        CutProofs y = emptyRows();
        y.plant(0, 2, 0, 0);
        EXPECT.due("there is no plan, each keeps it", 1, y.holds(0));
        EXPECT.due("it is not shown", 0, y.check(0));
    }
}
