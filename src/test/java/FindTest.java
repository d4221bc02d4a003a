/** Promises 6 and 7 with "2 KINDS": what find comes to, in which order, what is taken, and closed. */
public final class FindTest {
    private static final Expect EXPECT = new Expect();

    public static void main(String[] args) {
        wrongKinds();
        halvesOrder();
        halvesSides();
        halvesOfSums();
        roundedOrder();
        roundedSides();
        roundedNegative();
        coversLifted();
        coversTooHeavy();
        coversInNames();
        coversWithoutCapacity();
        cliquesWidest();
        cliquesOverRows();
        cliquesWithLeasts();
        onlyBroken();
        noneTwice();
        fullList();
        allNamesAndRows();
        EXPECT.end();
    }

    private static void wrongKinds() {
        CutProofs x = Models.triangle();
        EXPECT.due("find(-1)", -2, x.find(-1));
        EXPECT.due("find(4)", -2, x.find(4));
        EXPECT.due("find(min)", -2, x.find(Integer.MIN_VALUE));
        EXPECT.due("find(max)", -2, x.find(Integer.MAX_VALUE));
        EXPECT.due("told(2)", 0, x.told(2));
    }

    private static void halvesOrder() {
        CutProofs x = Models.negativeRights(1, 2, 4, 8, 16);
        EXPECT.due("find(0)", 31, x.find(0));
        for (int k = 0; k < 31; k++) {
            EXPECT.wholeCut(x, k, 0, -(k + 1));
            for (int r = 0; r < 5; r++) {
                EXPECT.due("proof", k + 1 >> r & 1, x.proof(k, 0, r));
            }
            EXPECT.due("D", 2, x.proof(k, 3, 0));
        }
    }

    private static void halvesSides() {
        CutProofs x = new CutProofs();
        x.name(-1, 1);
        Models.addRow(x, -2, 1);
        EXPECT.due("in the middle", 1, x.find(0));
        EXPECT.wholeCut(x, 0, 0, -1, 1);
        EXPECT.due("low", 0, x.proof(0, 1, 0));
        EXPECT.due("high", 1, x.proof(0, 2, 0));
        x.clear();
        x.name(-1, 1);
        Models.addRow(x, -3, -3);
        x.point(0, -1, 12);
        EXPECT.due("nearer to low", 1, x.find(0));
        EXPECT.wholeCut(x, 0, 0, -1, -2);
        EXPECT.due("low", 1, x.proof(0, 1, 0));
        EXPECT.due("high", 0, x.proof(0, 2, 0));
    }

    private static void halvesOfSums() {
        CutProofs x = Models.triangle();
        EXPECT.due("find(0)", 1, x.find(0));
        EXPECT.wholeCut(x, 0, 0, 1, 1, 1, 1);
        for (int n = 0; n < 3; n++) {
            EXPECT.due("row", 1, x.proof(0, 0, n));
            EXPECT.due("low", 0, x.proof(0, 1, n));
            EXPECT.due("high", 0, x.proof(0, 2, n));
        }
        x.point(2, 1, 4);
        x.factor(2, 2, 2);
        EXPECT.due("only rows 0 and 2 with the high of b are broken", 1, x.find(0));
        EXPECT.wholeCut(x, 0, 0, 1, 1, 1, 1);
        EXPECT.due("row 0", 1, x.proof(0, 0, 0));
        EXPECT.due("row 1", 0, x.proof(0, 0, 1));
        EXPECT.due("row 2", 1, x.proof(0, 0, 2));
        EXPECT.due("high of b", 1, x.proof(0, 2, 1));
    }

    private static void roundedOrder() {
        CutProofs x = new CutProofs();
        x.row(-20);
        x.row(-3);
        EXPECT.due("find(1)", 7, x.find(1));
        int[] rights = {-10, -7, -5, -4, -3, -2, -1};
        int[] divisors = {2, 3, 4, 5, 7, 2, 3};
        for (int k = 0; k < 7; k++) {
            EXPECT.wholeCut(x, k, 1, rights[k]);
            EXPECT.due("D", divisors[k], x.proof(k, 3, 0));
            EXPECT.due("row 0", k < 5 ? 1 : 0, x.proof(k, 0, 0));
            EXPECT.due("row 1", k < 5 ? 0 : 1, x.proof(k, 0, 1));
        }
    }

    private static void roundedSides() {
        CutProofs x = new CutProofs();
        x.name(0, 2);
        Models.addRow(x, -2, 1);
        x.point(0, 1, 1);
        EXPECT.due("like far: low", 1, x.find(1));
        EXPECT.wholeCut(x, 0, 1, -1, 0);
        EXPECT.due("low", 1, x.proof(0, 1, 0));
        EXPECT.due("high", 0, x.proof(0, 2, 0));
        EXPECT.due("D", 2, x.proof(0, 3, 0));
        x.clear();
        x.name(0, 2);
        Models.addRow(x, -9, 1);
        x.point(0, 13, 12);
        x.find(1);
        EXPECT.wholeCut(x, 0, 1, -4, 1);
        EXPECT.due("low", 0, x.proof(0, 1, 0));
        EXPECT.due("high", 1, x.proof(0, 2, 0));
        EXPECT.wholeCut(x, 1, 1, -3, 0);
        EXPECT.due("D 3: low once", 1, x.proof(1, 1, 0));
    }

    private static void roundedNegative() {
        CutProofs x = new CutProofs();
        x.name(-2, 3);
        Models.addRow(x, -8, -4);
        x.point(0, -2, 1);
        x.find(1);
        EXPECT.wholeCut(x, 0, 1, -4, -2);
        EXPECT.wholeCut(x, 1, 1, -2, -2);
        EXPECT.due("-4 leaves 2 over 3", 2, x.proof(1, 1, 0));
        EXPECT.due("D", 3, x.proof(1, 3, 0));
        EXPECT.due("check", 1, x.check(1));
    }

    private static void coversLifted() {
        CutProofs x = Models.knapsack();
        EXPECT.due("find(2)", 4, x.find(2));
        EXPECT.wholeCut(x, 0, 2, 2, 1, 1, 1, 2);
        EXPECT.wholeCut(x, 1, 2, 1, 1, 0, 0, 1);
        EXPECT.wholeCut(x, 2, 2, 1, 0, 1, 0, 1);
        EXPECT.wholeCut(x, 3, 2, 1, 0, 0, 1, 1);
        EXPECT.due("row", 0, x.proof(0, 0, 0));
        EXPECT.strength(x, 0, 0, "4");
        EXPECT.strength(x, 0, 1, "3");
    }

    private static void coversTooHeavy() {
        CutProofs x = Models.binaries(3);
        x.row(100);
        Models.addRow(x, 5, 3, 3, 9);
        Models.pointAll(x, 3, 1, 2);
        EXPECT.due("find(2)", 2, x.find(2));
        EXPECT.wholeCut(x, 0, 2, 1, 1, 1, 1);
        EXPECT.wholeCut(x, 1, 2, 0, 0, 0, 1);
        EXPECT.due("row", 1, x.proof(0, 0, 0));
        EXPECT.due("row", 1, x.proof(1, 0, 0));
    }

    private static void coversInNames() {
        CutProofs x = new CutProofs();
        x.name(-2, 3);
        x.name(0, 1);
        x.name(0, 1);
        Models.addRow(x, -2, 2, 4, -3);
        x.point(1, 1, 2);
        EXPECT.due("find(2)", 1, x.find(2));
        EXPECT.wholeCut(x, 0, 2, 0, 0, 1, -1);
        EXPECT.due("check", 1, x.check(0));
        EXPECT.due("holds", 1, x.holds(0));
    }

    private static void coversWithoutCapacity() {
        CutProofs x = Models.binaries(2);
        Models.addRow(x, -1, 1, 1);
        Models.pointAll(x, 2, 1, 1);
        EXPECT.due("nothing is not above a capacity below 0", 0, x.find(2));
        CutProofs y = Models.binaries(2);
        Models.addRow(y, 0, 1, 1);
        Models.pointAll(y, 2, 1, 1);
        EXPECT.due("a capacity of 0", 2, y.find(2));
        EXPECT.wholeCut(y, 0, 2, 0, 1, 0);
        EXPECT.wholeCut(y, 1, 2, 0, 0, 1);
    }

    private static void cliquesWidest() {
        CutProofs x = Models.binaries(4);
        Models.addRow(x, 1, 1, 1, 1, 0);
        Models.addRow(x, 1, 0, 0, 1, 1);
        Models.pointAll(x, 4, 1, 2);
        EXPECT.due("c and d are just not broken", 1, x.find(3));
        x.point(3, 2, 3);
        EXPECT.due("now they are", 1, x.find(3));
        EXPECT.wholeCut(x, 0, 3, 1, 1, 1, 1, 0);
        EXPECT.wholeCut(x, 1, 3, 1, 0, 0, 1, 1);
        EXPECT.strength(x, 1, 0, "1");
        EXPECT.strength(x, 1, 1, "6");
    }

    private static void cliquesOverRows() {
        CutProofs x = Models.triangle();
        EXPECT.due("find(3)", 1, x.find(3));
        EXPECT.wholeCut(x, 0, 3, 1, 1, 1, 1);
    }

    private static void cliquesWithLeasts() {
        CutProofs x = new CutProofs();
        x.name(-3, 2);
        x.name(0, 1);
        x.name(0, 1);
        Models.addRow(x, -6, 2, -4, 5);
        Models.pointAll(x, 3, 1, 1);
        EXPECT.due("-4 + 5 - 6 is above -6", 1, x.find(3));
        EXPECT.wholeCut(x, 0, 3, 1, 0, 1, 1);
        x.clear();
        x.name(-3, 2);
        x.name(0, 1);
        x.name(0, 1);
        Models.addRow(x, -5, 2, -4, 5);
        Models.pointAll(x, 3, 1, 1);
        EXPECT.due("it is not above -5", 0, x.find(3));
    }

    private static void onlyBroken() {
        CutProofs x = Models.triangle();
        Models.pointAll(x, 3, 1, 3);
        for (int kind = 0; kind <= 3; kind++) {
            EXPECT.due("the sum is 1 at the point", 0, x.find(kind));
        }
        x.point(0, 5, 12);
        EXPECT.due("it is a little more", 1, x.find(0));
        EXPECT.strength(x, 0, 1, "12");
    }

    private static void noneTwice() {
        CutProofs x = Models.triangle();
        EXPECT.due("find(3)", 1, x.find(3));
        EXPECT.due("of another kind", 0, x.find(0));
        EXPECT.due("again", 0, x.find(3));
        EXPECT.due("closed()", 1, x.closed());
        x.plant(0, 1, 0, 2);
        EXPECT.due("told otherwise, it is not there", 1, x.find(0));
        EXPECT.due("told(2)", 2, x.told(2));
        EXPECT.wholeCut(x, 1, 0, 1, 1, 1, 1);
        x.plant(1, 0, 2, 0);
        EXPECT.due("one factor makes another cut", 1, x.find(3));
    }

    private static void fullList() {
        CutProofs x = Models.negativeRights(1, 2, 4, 8, 16, 9);
        EXPECT.due("40 of 63 differ", 40, x.find(0));
        EXPECT.due("all were taken", 1, x.closed());
        EXPECT.due("find(0)", 0, x.find(0));
        EXPECT.due("none was to be taken", 1, x.closed());
        x = Models.negativeRights(1, 2, 4, 8, 16, 10);
        EXPECT.due("41 of 63 differ", 40, x.find(0));
        EXPECT.due("one more was to be taken", 0, x.closed());
        EXPECT.due("told(2)", 40, x.told(2));
        EXPECT.due("refused", -2, x.find(4));
        EXPECT.due("a refusal is no find", 0, x.closed());
        EXPECT.due("find(3)", 0, x.find(3));
        EXPECT.due("all of none", 1, x.closed());
        EXPECT.due("find(0)", 0, x.find(0));
        EXPECT.due("closed()", 0, x.closed());
        EXPECT.due("row(0)", 6, x.row(0));
        EXPECT.due("the latest find is the same", 0, x.closed());
        x = Models.negativeRights(1, 2, 4, 8, 16, 32, 64, 128, 256, 512);
        EXPECT.due("ten rows", 40, x.find(0));
        EXPECT.cut(x, 39, 1, 0, "-40");
    }

    /** Ten times the same row over eight names: a cut for each number of rows from 2 on. */
    private static void allNamesAndRows() {
        CutProofs x = Models.binaries(8);
        for (int r = 0; r < 10; r++) {
            Models.addRow(x, 1, 1, 1, 1, 1, 1, 1, 1, 1);
        }
        Models.pointAll(x, 8, 1, 2);
        EXPECT.due("plans()", 9, x.plans());
        EXPECT.due("find(0)", 9, x.find(0));
        int[] rights = {1, 5, 2, 6, 3, 7, 4, 8, 5};
        for (int k = 0; k < 9; k++) {
            int f = (k + 3) / 2;
            EXPECT.wholeCut(x, k, 0, rights[k], f, f, f, f, f, f, f, f);
            for (int r = 0; r < 10; r++) {
                EXPECT.due("row", r < k + 2 ? 1 : 0, x.proof(k, 0, r));
            }
            EXPECT.due("high", k % 2, x.proof(k, 2, 7));
            EXPECT.due("holds", 1, x.holds(k));
        }
        EXPECT.due("accepted", 9, x.told(4));
        EXPECT.due("covers are all the first one", 0, x.find(2));
        EXPECT.due("so is the clique", 0, x.find(3));
        x.plant(0, 1, 0, 2);
        EXPECT.due("find(2)", 1, x.find(2));
        x.plant(9, 1, 0, 0);
        EXPECT.due("find(3)", 1, x.find(3));
        EXPECT.wholeCut(x, 10, 3, 1, 1, 1, 1, 1, 1, 1, 1, 1);
    }
}
