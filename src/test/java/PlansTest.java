/** Promises 13 to 17: best, holds, plans, turn, told. */
public final class PlansTest {
    private static final Expect EXPECT = new Expect();

    public static void main(String[] args) {
        best();
        holds();
        plans();
        choicesAtTheEdge();
        turns();
        turnsMoveUp();
        told();
        EXPECT.end();
    }

    private static void best() {
        CutProofs x = Models.knapsack();
        EXPECT.due("no cut", -1, x.best());
        x.find(2);
        EXPECT.due("strongest", 0, x.best());
        x.plant(0, 1, 0, 1000);
        EXPECT.due("the first of like ones", 1, x.best());
        x.plant(3, 1, 0, 0);
        EXPECT.due("the last", 3, x.best());
        for (int k = 0; k < 4; k++) {
            x.plant(k, 1, 0, 1000 - (k == 2 ? 1 : 0));
            x.plant(k, 0, 0, 0);
            x.plant(k, 0, 1, 0);
            x.plant(k, 0, 2, 0);
            x.plant(k, 0, 3, 0);
        }
        EXPECT.due("all below 0", 2, x.best());
    }

    private static void holds() {
        CutProofs x = Models.triangle();
        EXPECT.due("no cut", -1, x.holds(0));
        x.find(0);
        EXPECT.due("no cut", -1, x.holds(1));
        EXPECT.due("no cut", -1, x.holds(-1));
        EXPECT.due("as found", 1, x.holds(0));
        x.plant(0, 1, 0, 0);
        EXPECT.due("(1, 0, 0) does not", 0, x.holds(0));
        x.plant(0, 1, 0, -1);
        EXPECT.due("none does", 0, x.holds(0));
        x.plant(0, 1, 0, 1);
        x.plant(0, 0, 2, 2);
        EXPECT.due("(0, 0, 1) does not", 0, x.holds(0));
        x.plant(0, 0, 2, -1000);
        x.plant(0, 5, 0, 0);
        EXPECT.due("each plan keeps what the checker refuses", 1, x.holds(0));
        EXPECT.due("check", 0, x.check(0));
    }

    private static void plans() {
        CutProofs x = new CutProofs();
        EXPECT.due("without names", 1, x.plans());
        x.row(0);
        EXPECT.due("a right of 0", 1, x.plans());
        x.row(-1);
        EXPECT.due("a right below 0", 0, x.plans());
        CutProofs y = new CutProofs();
        y.name(-2, 3);
        y.name(0, 5);
        EXPECT.due("all choices", 36, y.plans());
        Models.addRow(y, 7, 3, -2);
        Models.addRow(y, -1, -4, 3);
        EXPECT.due("plans", 8, y.plans());
        y.name(4, 4);
        EXPECT.due("one number", 8, y.plans());
        EXPECT.due("as many again", 8, y.plans());
    }

    private static void choicesAtTheEdge() {
        CutProofs x = new CutProofs();
        x.name(-10, 14);
        x.name(-10, 14);
        x.name(1, 4);
        x.name(1, 4);
        EXPECT.due("10000", 10000, x.plans());
        x.name(0, 1);
        EXPECT.due("20000", 20000, x.plans());
        x.row(-1);
        x.find(0);
        EXPECT.due("there is no plan", 1, x.holds(0));
        CutProofs y = new CutProofs();
        y.name(-28, 30);
        y.name(-30, 30);
        Models.addRow(y, -1, 0, 0);
        y.find(0);
        EXPECT.due("59 times 61", 1, y.holds(0));
        y.name(0, 5);
        EXPECT.due("59 times 366", -4, y.plans());
        y.find(0);
        EXPECT.due("59 times 366", -4, y.holds(0));
        EXPECT.due("none stands before full", -1, y.holds(1));
        for (int n = 3; n < 8; n++) {
            y.name(-30, 30);
        }
        EXPECT.due("very many", -4, y.plans());
        CutProofs z = new CutProofs();
        z.name(1, 27);
        z.name(-19, 19);
        z.name(-20, -3);
        EXPECT.due("27 times 39 times 18", 18954, z.plans());
        CutProofs w = new CutProofs();
        w.name(1, 27);
        w.name(-19, 19);
        w.name(-20, -2);
        EXPECT.due("27 times 39 times 19 is 20007", -4, w.plans());
    }

    private static void turns() {
        CutProofs x = Models.triangle();
        EXPECT.due("no cut", 0, x.turn());
        x.find(0);
        EXPECT.cut(x, 0, 3, 0, "0");
        x.turn();
        EXPECT.cut(x, 0, 3, 0, "0");
        Models.pointAll(x, 3, 1, 4);
        EXPECT.due("turn()", 0, x.turn());
        EXPECT.due("turn()", 0, x.turn());
        EXPECT.cut(x, 0, 3, 0, "2");
        Models.pointAll(x, 3, 1, 3);
        EXPECT.due("a sum that is the right", 0, x.turn());
        EXPECT.cut(x, 0, 3, 0, "0");
        Models.pointAll(x, 3, 1, 4);
        EXPECT.due("turn()", 0, x.turn());
        EXPECT.due("turn()", 0, x.turn());
        EXPECT.due("turn()", 1, x.turn());
        EXPECT.due("told(2)", 0, x.told(2));
        EXPECT.cut(x, 0, 3, 0, Answers.NO_INDEX);
        Models.pointAll(x, 3, 1, 2);
        EXPECT.due("found anew", 1, x.find(0));
        EXPECT.cut(x, 0, 3, 0, "0");
    }

    private static void turnsMoveUp() {
        CutProofs x = Models.negativeRights(1, 2, 4);
        x.find(0);
        for (int k = 0; k < 7; k += 3) {
            x.plant(k, 1, 0, 100 + k);
        }
        x.turn();
        x.plant(1, 1, 0, 101);
        x.turn();
        EXPECT.due("three go", 3, x.turn());
        EXPECT.due("told(2)", 4, x.told(2));
        int[] rights = {101, -3, -5, -6};
        int[] sets = {2, 3, 5, 6};
        for (int k = 0; k < 4; k++) {
            EXPECT.wholeCut(x, k, 0, rights[k]);
            EXPECT.cut(x, k, 3, 0, k == 0 ? "2" : "0");
            for (int r = 0; r < 3; r++) {
                EXPECT.due("row", sets[k] >> r & 1, x.proof(k, 0, r));
            }
        }
        EXPECT.due("closed()", 1, x.closed());
        EXPECT.due("those that went are found again", 4, x.find(0));
        EXPECT.wholeCut(x, 4, 0, -1);
        EXPECT.wholeCut(x, 5, 0, -2);
        EXPECT.wholeCut(x, 6, 0, -4);
        EXPECT.wholeCut(x, 7, 0, -7);
        EXPECT.due("one goes", 1, x.turn());
        EXPECT.wholeCut(x, 0, 0, -3);
    }

    private static void told() {
        CutProofs x = Models.triangle();
        x.name(0, 1);
        EXPECT.due("told(-1)", -2, x.told(-1));
        EXPECT.due("told(5)", -2, x.told(5));
        EXPECT.due("told(min)", -2, x.told(Integer.MIN_VALUE));
        EXPECT.due("names", 4, x.told(0));
        EXPECT.due("rows", 3, x.told(1));
        x.find(0);
        x.plant(0, 1, 0, 2);
        x.find(3);
        EXPECT.due("cuts", 2, x.told(2));
        EXPECT.due("broken", 1, x.told(3));
        EXPECT.due("accepted", 2, x.told(4));
        x.plant(1, 1, 0, 0);
        EXPECT.due("broken", 1, x.told(3));
        EXPECT.due("accepted", 1, x.told(4));
        x.plant(0, 1, 0, -1);
        EXPECT.due("broken", 2, x.told(3));
        EXPECT.due("accepted", 0, x.told(4));
        Models.pointAll(x, 3, 0, 1);
        EXPECT.due("a sum that is the right is not above it", 1, x.told(3));
    }
}
