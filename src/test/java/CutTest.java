/** Promises 8 to 12: cut, proof, plant, check, strength. */
public final class CutTest {
    private static final Expect EXPECT = new Expect();
    private static final String NO_INDEX = Answers.NO_INDEX, NO_ARGUMENT = Answers.NO_ARGUMENT;

    public static void main(String[] args) {
        cuts();
        proofsOfRounding();
        proofsOfCovers();
        proofsOfCliques();
        plants();
        plantedEdges();
        checksOfRounding();
        checksOfTimesBelowZero();
        checksOfCovers();
        checksOfCliques();
        strengths();
        EXPECT.end();
    }

    private static void cuts() {
        CutProofs x = Models.triangle();
        EXPECT.cut(x, 0, 0, 0, NO_INDEX);
        EXPECT.cut(x, 0, 9, 0, NO_INDEX);
        x.find(3);
        for (int k : new int[] {-1, 1, Integer.MIN_VALUE, Integer.MAX_VALUE}) {
            EXPECT.cut(x, k, 1, 0, NO_INDEX);
            EXPECT.cut(x, k, 4, 0, NO_INDEX);
        }
        for (int i : new int[] {-1, 3, 8, Integer.MIN_VALUE, Integer.MAX_VALUE}) {
            EXPECT.cut(x, 0, 0, i, NO_INDEX);
            EXPECT.cut(x, 0, 1, i, "1");
            EXPECT.cut(x, 0, 2, i, "3");
            EXPECT.cut(x, 0, 3, i, "0");
            EXPECT.cut(x, 0, 4, i, NO_ARGUMENT);
        }
        EXPECT.cut(x, 0, -1, 0, NO_ARGUMENT);
        EXPECT.cut(x, 0, Integer.MAX_VALUE, 0, NO_ARGUMENT);
        EXPECT.cut(x, 0, 0, 2, "1");
        x.point(0, 0, 1);
        x.point(1, 0, 1);
        x.turn();
        EXPECT.cut(x, 0, 3, 0, "1");
        x.turn();
        EXPECT.cut(x, 0, 3, 0, "2");
    }

    private static void proofsOfRounding() {
        CutProofs x = Models.triangle();
        EXPECT.due("no cut", -1, x.proof(0, 0, 0));
        EXPECT.due("no cut before bad", -1, x.proof(0, 4, 0));
        x.find(0);
        EXPECT.due("no cut", -1, x.proof(-1, 0, 0));
        EXPECT.due("no cut", -1, x.proof(1, 0, 0));
        EXPECT.due("no row", -1, x.proof(0, 0, 3));
        EXPECT.due("no row", -1, x.proof(0, 0, -1));
        EXPECT.due("no name", -1, x.proof(0, 1, 3));
        EXPECT.due("no name", -1, x.proof(0, 2, -1));
        EXPECT.due("D", 2, x.proof(0, 3, 0));
        EXPECT.due("an i that is not 0", -2, x.proof(0, 3, 1));
        EXPECT.due("an i that is not 0", -2, x.proof(0, 3, -1));
        EXPECT.due("another what", -2, x.proof(0, 4, 0));
        EXPECT.due("another what", -2, x.proof(0, -1, 0));
        EXPECT.due("another what", -2, x.proof(0, 4, 99));
    }

    private static void proofsOfCovers() {
        CutProofs x = Models.knapsack();
        x.find(2);
        EXPECT.due("row", 0, x.proof(0, 0, 0));
        EXPECT.due("an i that is not 0", -2, x.proof(0, 0, 1));
        EXPECT.due("an i that is not 0", -2, x.proof(0, 0, -1));
        EXPECT.due("no lows", -1, x.proof(0, 1, 0));
        EXPECT.due("no highs", -1, x.proof(0, 2, 0));
        EXPECT.due("no D", -1, x.proof(0, 3, 0));
        EXPECT.due("no D stands before an i", -1, x.proof(0, 3, 1));
        EXPECT.due("another what", -2, x.proof(0, 4, 0));
    }

    private static void proofsOfCliques() {
        CutProofs x = Models.triangle();
        x.find(3);
        for (int what = 0; what <= 3; what++) {
            EXPECT.due("nothing else is shown", -1, x.proof(0, what, 0));
            EXPECT.due("nothing else is shown", -1, x.proof(0, what, 9));
            EXPECT.due("nothing else is told otherwise", -1, x.plant(0, what + 2, 0, 1));
            EXPECT.due("none stands before bad", -1, x.plant(0, what + 2, 0, 1001));
        }
        EXPECT.due("another what", -2, x.proof(0, 4, 0));
        EXPECT.due("another what", -2, x.plant(0, 6, 0, 0));
    }

    private static void plants() {
        CutProofs x = Models.triangle();
        EXPECT.due("no cut", -1, x.plant(0, 0, 0, 1));
        EXPECT.due("no cut before bad", -1, x.plant(0, 6, 0, 1001));
        x.find(0);
        EXPECT.due("factor", 1, x.plant(0, 0, 2, -7));
        EXPECT.due("right", 1, x.plant(0, 1, 0, 8));
        EXPECT.wholeCut(x, 0, 0, 8, 1, 1, -7);
        EXPECT.due("row", 1, x.plant(0, 2, 1, 11));
        EXPECT.due("low", 1, x.plant(0, 3, 1, 12));
        EXPECT.due("high", 1, x.plant(0, 4, 2, -13));
        EXPECT.due("D", 1, x.plant(0, 5, 0, -1));
        EXPECT.due("row", 11, x.proof(0, 0, 1));
        EXPECT.due("other row", 1, x.proof(0, 0, 0));
        EXPECT.due("low", 12, x.proof(0, 1, 1));
        EXPECT.due("high", -13, x.proof(0, 2, 2));
        EXPECT.due("D", -1, x.proof(0, 3, 0));
        CutProofs y = Models.knapsack();
        y.find(2);
        EXPECT.due("row", 1, y.plant(1, 2, 0, 77));
        EXPECT.due("row", 77, y.proof(1, 0, 0));
        EXPECT.due("row of another cut", 0, y.proof(0, 0, 0));
        EXPECT.due("an i that is not 0", -2, y.plant(1, 2, 1, 0));
        for (int what = 3; what <= 5; what++) {
            EXPECT.due("no such thing", -1, y.plant(1, what, 0, 1));
        }
    }

    private static void plantedEdges() {
        CutProofs x = Models.triangle();
        x.find(0);
        EXPECT.due("edge", 1, x.plant(0, 1, 0, 1000));
        EXPECT.due("edge", 1, x.plant(0, 1, 0, -1000));
        int[] tops = {3, 1, 3, 3, 3, 1};
        for (int what = 0; what <= 5; what++) {
            int refusal = what == 1 || what == 5 ? -2 : -1;
            EXPECT.due("i", refusal, x.plant(0, what, tops[what], 1));
            EXPECT.due("i", refusal, x.plant(0, what, -1, 1));
            EXPECT.due("i before v", refusal, x.plant(0, what, tops[what], 1001));
            EXPECT.due("v", -2, x.plant(0, what, 0, 1001));
            EXPECT.due("v", -2, x.plant(0, what, 0, -1001));
        }
        EXPECT.due("another what", -2, x.plant(0, -1, 0, 1));
        EXPECT.due("another what", -2, x.plant(0, 6, 0, 1));
        EXPECT.due("another what", -2, x.plant(0, Integer.MIN_VALUE, 0, 1));
        EXPECT.due("another what", -2, x.plant(0, Integer.MAX_VALUE, 9, 1));
        EXPECT.wholeCut(x, 0, 0, -1000, 1, 1, 1);
        EXPECT.due("row", 1, x.proof(0, 0, 0));
        EXPECT.due("D", 2, x.proof(0, 3, 0));
    }

    private static void checksOfRounding() {
        CutProofs x = Models.triangle();
        EXPECT.due("no cut", -1, x.check(0));
        x.find(0);
        EXPECT.due("no cut", -1, x.check(1));
        EXPECT.due("no cut", -1, x.check(-1));
        EXPECT.due("as found", 1, x.check(0));
        afterPlant(x, 1, 0, 0, 0);
        afterPlant(x, 1, 0, 1000, 1);
        afterPlant(x, 0, 1, 2, 0);
        afterPlant(x, 2, 0, 2, 0);
        afterPlant(x, 3, 1, 2, 0);
        afterPlant(x, 5, 0, 0, 0);
        afterPlant(x, 5, 0, -2, 0);
        afterPlant(x, 5, 0, 1, 0);
        x.plant(0, 3, 1, 5);
        x.plant(0, 4, 1, 5);
        EXPECT.due("low and high as often: 3 + 5 is 8, half is 4", 0, x.check(0));
        x.plant(0, 1, 0, 4);
        EXPECT.due("4 is not below", 1, x.check(0));
        x.plant(0, 3, 1, -5);
        x.plant(0, 4, 1, -5);
        EXPECT.due("less than 0 times", 0, x.check(0));
        CutProofs y = new CutProofs();
        y.name(-3, 4);
        Models.addRow(y, -7, 0);
        y.find(0);
        EXPECT.due("as found", 1, y.check(0));
        EXPECT.wholeCut(y, 0, 0, -4, 0);
        y.plant(0, 1, 0, -3);
        EXPECT.due("not below", 1, y.check(0));
        y.plant(0, 1, 0, -5);
        EXPECT.due("-7 / 2 is rounded down to -4", 0, y.check(0));
        y.plant(0, 3, 0, 2);
        EXPECT.due("factor -1 is due", 0, y.check(0));
        y.plant(0, 0, 0, -1);
        EXPECT.due("-7 + 6: -1 is due", 0, y.check(0));
        y.plant(0, 1, 0, -1);
        EXPECT.due("-7 + 6: -1 is due", 1, y.check(0));
    }

    /** Sums that would come out, were it not that something is taken less than 0 times. */
    private static void checksOfTimesBelowZero() {
        CutProofs x = new CutProofs();
        x.name(-3, 4);
        Models.addRow(x, -7, 0);
        Models.addRow(x, 5, 0);
        x.find(0);
        x.plant(0, 5, 0, 1);
        x.plant(0, 1, 0, 100);
        EXPECT.due("D may be 1", 1, x.check(0));
        x.plant(0, 3, 0, -2);
        x.plant(0, 0, 0, 2);
        EXPECT.due("low", 0, x.check(0));
        x.plant(0, 3, 0, 0);
        x.plant(0, 4, 0, -2);
        x.plant(0, 0, 0, -2);
        EXPECT.due("high", 0, x.check(0));
        x.plant(0, 4, 0, 2);
        x.plant(0, 0, 0, 2);
        EXPECT.due("high twice", 1, x.check(0));
        x.plant(0, 2, 1, -1);
        EXPECT.due("row", 0, x.check(0));
        x.plant(0, 2, 1, 1);
        EXPECT.due("row", 1, x.check(0));
    }

    /** One thing is told otherwise and looked at, then told as before. */
    private static void afterPlant(CutProofs x, int what, int i, int v, int want) {
        int before = what == 0 ? x.cut(0, 0, i) : what == 1 ? x.cut(0, 1, 0) : x.proof(0, what - 2, i);
        EXPECT.due("plant(0, " + what + ", " + i + ", " + v + ")", 1, x.plant(0, what, i, v));
        EXPECT.due("check behind plant(0, " + what + ", " + i + ", " + v + ")", want, x.check(0));
        x.plant(0, what, i, before);
        EXPECT.due("check as before", 1, x.check(0));
    }

    private static void checksOfCovers() {
        CutProofs x = Models.binaries(4);
        x.name(-2, 2);
        Models.addRow(x, 8, 3, 3, 3, 6, 0);
        Models.addRow(x, 7, 3, 3, 3, 6, 1);
        x.row(-1);
        Models.pointAll(x, 4, 2, 3);
        x.find(2);
        EXPECT.wholeCut(x, 0, 2, 2, 1, 1, 1, 2, 0);
        EXPECT.due("as found", 1, x.check(0));
        afterPlant(x, 1, 0, 1, 0);
        afterPlant(x, 1, 0, 3, 1);
        afterPlant(x, 0, 3, 3, 0);
        afterPlant(x, 0, 3, 1, 1);
        afterPlant(x, 0, 0, -1, 1);
        afterPlant(x, 0, 4, 1, 0);
        afterPlant(x, 2, 0, 3, 0);
        afterPlant(x, 2, 0, -1, 0);
        afterPlant(x, 2, 0, 1, 0);
        afterPlant(x, 2, 0, 2, 1);
        for (int n = 0; n < 4; n++) {
            x.plant(0, 0, n, 0);
        }
        x.plant(0, 1, 0, 0);
        EXPECT.due("0 is not above 0", 1, x.check(0));
        x.plant(0, 1, 0, -1);
        EXPECT.due("0 is above -1", 0, x.check(0));
        x.plant(0, 2, 0, 2);
        EXPECT.due("no choice keeps the row", 1, x.check(0));
    }

    private static void checksOfCliques() {
        CutProofs x = Models.binaries(3);
        x.name(0, 2);
        Models.addRow(x, 1, 1, 1, 0, 1);
        Models.addRow(x, 1, 0, 1, 1, 0);
        Models.pointAll(x, 3, 2, 3);
        EXPECT.due("find(3)", 2, x.find(3));
        EXPECT.due("as found", 1, x.check(0));
        EXPECT.due("as found", 1, x.check(1));
        afterPlant(x, 1, 0, 0, 0);
        afterPlant(x, 1, 0, 2, 1);
        afterPlant(x, 0, 0, 2, 0);
        afterPlant(x, 0, 0, -1, 0);
        afterPlant(x, 0, 0, 0, 1);
        afterPlant(x, 0, 2, 1, 0);
        afterPlant(x, 0, 3, 1, 0);
        x.plant(0, 0, 0, 0);
        x.plant(0, 0, 1, 0);
        EXPECT.due("nothing is not above 1", 1, x.check(0));
    }

    private static void strengths() {
        CutProofs x = Models.triangle();
        EXPECT.strength(x, 0, 0, NO_INDEX);
        EXPECT.strength(x, 0, 2, NO_INDEX);
        x.find(0);
        EXPECT.strength(x, 1, 0, NO_INDEX);
        EXPECT.strength(x, -1, 1, NO_INDEX);
        EXPECT.strength(x, 0, 2, NO_ARGUMENT);
        EXPECT.strength(x, 0, -1, NO_ARGUMENT);
        EXPECT.strength(x, 0, 0, "1");
        EXPECT.strength(x, 0, 1, "2");
        Models.pointAll(x, 3, 1, 3);
        EXPECT.strength(x, 0, 0, "0");
        EXPECT.strength(x, 0, 1, "1");
        Models.pointAll(x, 3, 0, 7);
        EXPECT.strength(x, 0, 0, "-1");
        EXPECT.strength(x, 0, 1, "1");
        x.point(0, 1, 11);
        x.point(1, 1, 9);
        x.point(2, 1, 8);
        EXPECT.strength(x, 0, 0, "-533");
        EXPECT.strength(x, 0, 1, "792");
        for (int n = 0; n < 3; n++) {
            x.plant(0, 0, n, 1000);
            x.point(n, 400, 1);
        }
        x.plant(0, 1, 0, -1000);
        EXPECT.strength(x, 0, 0, "1201000");
        EXPECT.strength(x, 0, 1, "1");
        x.point(0, 400, 7);
        x.point(1, 400, 11);
        EXPECT.strength(x, 0, 0, "38077000");
        EXPECT.strength(x, 0, 1, "77");
    }
}
