/** What README.md says: its example, call for call, and how it reads what the document leaves open. */
public final class ReadmeTest {
    private static final Expect EXPECT = new Expect();

    public static void main(String[] args) {
        example();
        whatOfAnotherKind();
        closedStays();
        plantedIsComparedAsItIs();
        EXPECT.end();
    }

    private static void example() {
        CutProofs x = new CutProofs();
        for (int n = 0; n < 3; n++) EXPECT.due("name", n, x.name(0, 1));
        for (int r = 0; r < 3; r++) {
            EXPECT.due("row", r, x.row(1));
            EXPECT.due("factor", 0, x.factor(r, r, 1));
            EXPECT.due("factor", 0, x.factor(r, (r + 1) % 3, 1));
        }
        for (int n = 0; n < 3; n++) EXPECT.due("point", 1, x.point(n, 1, 2));
        EXPECT.due("plans()", 4, x.plans());
        EXPECT.due("find(0)", 1, x.find(0));
        EXPECT.cut(x, 0, 0, 2, "1");
        EXPECT.cut(x, 0, 1, 0, "1");
        EXPECT.due("proof(0, 0, 1)", 1, x.proof(0, 0, 1));
        EXPECT.due("proof(0, 3, 0)", 2, x.proof(0, 3, 0));
        EXPECT.due("check(0)", 1, x.check(0));
        EXPECT.due("holds(0)", 1, x.holds(0));
        EXPECT.strength(x, 0, 0, "1");
        EXPECT.strength(x, 0, 1, "2");
        EXPECT.due("plant(0, 1, 0, 0)", 1, x.plant(0, 1, 0, 0));
        EXPECT.due("check(0)", 0, x.check(0));
    }

    private static void whatOfAnotherKind() {
        CutProofs x = Models.knapsack();
        x.find(2);
        whatsOf(x);
        EXPECT.due("a cover has a row", CutProofs.BAD, x.proof(0, 0, 5));
        CutProofs y = Models.triangle();
        y.find(3);
        whatsOf(y);
        EXPECT.due("a clique has none", CutProofs.NONE, y.proof(0, 0, 5));
    }

    /** Cut 0, which has no lows, highs and divisor, asked for these and for what no kind has. */
    private static void whatsOf(CutProofs x) {
        for (int i = -1; i <= 9; i++) {
            for (int what = 1; what <= 3; what++) {
                EXPECT.due("proof", CutProofs.NONE, x.proof(0, what, i));
                EXPECT.due("plant", CutProofs.NONE, x.plant(0, what + 2, i, 1));
            }
            EXPECT.due("proof", CutProofs.BAD, x.proof(0, -1, i));
            EXPECT.due("proof", CutProofs.BAD, x.proof(0, 4, i));
            EXPECT.due("plant", CutProofs.BAD, x.plant(0, -1, i, 1));
            EXPECT.due("plant", CutProofs.BAD, x.plant(0, 6, i, 1));
            EXPECT.cut(x, 0, 4, i, Answers.NO_ARGUMENT);
            EXPECT.cut(x, 0, -1, i, Answers.NO_ARGUMENT);
        }
    }

    private static void closedStays() {
        CutProofs x = Models.negativeRights(1, 2, 4, 8, 16, 32);
        EXPECT.due("find(0)", 40, x.find(0));
        EXPECT.due("closed()", 0, x.closed());
        x.find(4);
        EXPECT.due("behind a refused find", 0, x.closed());
        x.turn();
        EXPECT.due("behind turn", 0, x.closed());
        x.name(0, 1);
        EXPECT.due("behind name", 0, x.closed());
        x.row(0);
        EXPECT.due("behind row", 0, x.closed());
        x.factor(0, 0, 1);
        EXPECT.due("behind factor", 0, x.closed());
        x.find(3);
        EXPECT.due("behind another find", 1, x.closed());
    }

    private static void plantedIsComparedAsItIs() {
        CutProofs x = Models.triangle();
        x.find(0);
        EXPECT.due("it is there", 0, x.find(3));
        x.plant(0, 1, 0, 0);
        EXPECT.due("it is another one now", 1, x.find(3));
        x.plant(1, 1, 0, 0);
        x.plant(0, 1, 0, 1);
        EXPECT.due("it is there again", 0, x.find(3));
    }
}
