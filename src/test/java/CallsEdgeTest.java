/** Promises 1 to 18: each number that is just allowed, and the one just beyond it on either side. */
public final class CallsEdgeTest {
    private static final Expect EXPECT = new Expect();
    private static final int LEAST = Integer.MIN_VALUE, MOST = Integer.MAX_VALUE;

    public static void main(String[] args) {
        emptyObject();
        nameBadBeforeFull();
        rowBadBeforeFull();
        factorEdges();
        factorsOfMinusOneAndTwo();
        pointEdges();
        cutsGoWithNameRowFactor();
        cutsStayWithPoint();
        cutEdges();
        proofEdges();
        proofsOfOtherKinds();
        plantEdges();
        plantsOfOtherKinds();
        strengthEdges();
        strengthLowestTerms();
        bestEdges();
        holdsEdges();
        choicesUpTo20000();
        choicesThatWrapAround();
        plansWithoutNames();
        turnEdges();
        turnsMoveUp();
        turnOfForty();
        toldEdges();
        clearedIsNew();
        EXPECT.end();
    }

    /** "No NAMES, no ROWS, no CUTS." */
    private static void emptyObject() {
        CutProofs x = new CutProofs();
        for (int what = 0; what <= 4; what++) {
            EXPECT.due("told(" + what + ")", 0, x.told(what));
        }
        EXPECT.due("factor", -1, x.factor(0, 0, 0));
        EXPECT.due("point", -1, x.point(0, 0, 1));
        EXPECT.due("closed", 1, x.closed());
        EXPECT.cut(x, 0, 0, 0, Answers.NO_INDEX);
        EXPECT.cut(x, 0, 1, 0, Answers.NO_INDEX);
        EXPECT.strength(x, 0, 0, Answers.NO_INDEX);
        EXPECT.due("proof", -1, x.proof(0, 0, 0));
        EXPECT.due("plant", -1, x.plant(0, 0, 0, 0));
        EXPECT.due("check", -1, x.check(0));
        EXPECT.due("best", -1, x.best());
        EXPECT.due("holds", -1, x.holds(0));
        EXPECT.due("plans", 1, x.plans());
        EXPECT.due("turn", 0, x.turn());
        x.clear();
        EXPECT.due("told(0)", 0, x.told(0));
    }

    /** name: "BAD: ..; FULL." */
    private static void nameBadBeforeFull() {
        CutProofs x = Models.binaries(8);
        EXPECT.due("good, but full", -4, x.name(30, 30));
        EXPECT.due("low", -2, x.name(-31, 0));
        EXPECT.due("high", -2, x.name(0, 31));
        EXPECT.due("high below low", -2, x.name(1, 0));
        CutProofs y = Models.binaries(7);
        EXPECT.due("bad with room for one", -2, y.name(1, 0));
        EXPECT.due("the room is still there", 7, y.name(0, 1));
        EXPECT.due("full", -4, y.name(0, 1));
    }

    /** row: "BAD; FULL." */
    private static void rowBadBeforeFull() {
        CutProofs x = new CutProofs();
        for (int r = 0; r < 9; r++) {
            x.row(r);
        }
        EXPECT.due("bad with room for one", -2, x.row(10000));
        EXPECT.due("the room is still there", 9, x.row(9999));
        EXPECT.due("good, but full", -4, x.row(-9999));
        EXPECT.due("bad before full", -2, x.row(-10000));
        EXPECT.due("bad before full", -2, x.row(10000));
    }

    /** factor: "NONE: the ROW, the NAME; BAD" */
    private static void factorEdges() {
        CutProofs x = Models.binaries(3);
        x.row(1);
        x.row(2);
        for (int r : new int[] {-1, 2, 10, LEAST, MOST}) {
            EXPECT.due("row " + r, -1, x.factor(r, 0, 1));
            EXPECT.due("row before bad", -1, x.factor(r, 0, 51));
        }
        for (int n : new int[] {-1, 3, 8, LEAST, MOST}) {
            EXPECT.due("name " + n, -1, x.factor(0, n, 1));
            EXPECT.due("name before bad", -1, x.factor(1, n, -51));
        }
        for (int v : new int[] {-51, 51, LEAST, MOST}) {
            EXPECT.due("factor " + v, -2, x.factor(1, 2, v));
        }
        for (int r = 0; r < 2; r++) {
            for (int n = 0; n < 3; n++) {
                EXPECT.due("untouched", 0, x.factor(r, n, 50 - r));
                EXPECT.due("the most", 50 - r, x.factor(r, n, -50 + n));
                EXPECT.due("the least", -50 + n, x.factor(r, n, -50 + n));
            }
        }
    }

    /** "(so -1 and -2 are told of a FACTOR of that, too)" */
    private static void factorsOfMinusOneAndTwo() {
        CutProofs x = Models.triangle();
        x.find(0);
        EXPECT.due("what it was", 1, x.factor(0, 0, -1));
        EXPECT.due("told(2)", 0, x.told(2));
        x.find(0);
        EXPECT.due("what it was", -1, x.factor(0, 0, -2));
        EXPECT.due("no refusal: the cuts are gone", 0, x.told(2));
        EXPECT.due("what it was", -2, x.factor(0, 0, -4));
        EXPECT.due("what it was", -4, x.factor(0, 0, 1));
    }

    /** point: "NONE; BAD: below is not 1 .. 12, above not - 400 .. 400." */
    private static void pointEdges() {
        CutProofs x = Models.binaries(2);
        for (int n : new int[] {-1, 2, 8, LEAST, MOST}) {
            EXPECT.due("name " + n, -1, x.point(n, 0, 1));
            EXPECT.due("none before bad", -1, x.point(n, 401, 13));
        }
        for (int below : new int[] {0, 13, -1, -12, LEAST, MOST}) {
            EXPECT.due("below " + below, -2, x.point(1, 1, below));
        }
        for (int above : new int[] {-401, 401, LEAST, MOST}) {
            EXPECT.due("above " + above, -2, x.point(1, above, 1));
            EXPECT.due("above " + above, -2, x.point(1, above, 12));
        }
        int[][] allowed = {{-400, 1}, {400, 1}, {-400, 12}, {400, 12}, {0, 1}, {0, 12}};
        for (int[] p : allowed) {
            EXPECT.due("point(1, " + p[0] + ", " + p[1] + ")", 1, x.point(1, p[0], p[1]));
        }
        x.row(-1);
        x.find(0);
        x.plant(0, 0, 1, 1);
        x.plant(0, 1, 0, 0);
        String[][] lowest = {{"-400", "1"}, {"400", "1"}, {"-100", "3"}, {"100", "3"}, {"0", "1"}, {"0", "1"}};
        for (int j = 0; j < allowed.length; j++) {
            x.point(1, allowed[j][0], allowed[j][1]);
            EXPECT.strength(x, 0, 0, lowest[j][0]);
            EXPECT.strength(x, 0, 1, lowest[j][1]);
        }
    }

    /** name, row, factor: "all CUTS are gone" */
    private static void cutsGoWithNameRowFactor() {
        CutProofs x = Models.triangle();
        x.find(0);
        EXPECT.due("name", 3, x.name(5, 5));
        EXPECT.due("gone", 0, x.told(2));
        x.find(0);
        EXPECT.due("found again", 1, x.told(2));
        EXPECT.due("row", 3, x.row(9999));
        EXPECT.due("gone", 0, x.told(2));
        EXPECT.cut(x, 0, 2, 0, Answers.NO_INDEX);
        x.find(0);
        EXPECT.due("found again", 1, x.told(2));
        EXPECT.due("a factor that stays as it was", 1, x.factor(0, 0, 1));
        EXPECT.due("gone", 0, x.told(2));
        EXPECT.due("check", -1, x.check(0));
    }

    private static void cutsStayWithPoint() {
        CutProofs x = Models.triangle();
        x.find(0);
        x.turn();
        EXPECT.due("point", 1, x.point(0, -400, 1));
        EXPECT.due("the cut stays", 1, x.told(2));
        EXPECT.strength(x, 0, 0, "-400");
    }

    /** cut: "IndexOutOfBoundsException: there is no such CUT, or NAME; IllegalArgumentException: another what." */
    private static void cutEdges() {
        CutProofs x = Models.knapsack();
        x.find(2);
        for (int k : new int[] {-1, 4, 40, LEAST, MOST}) {
            for (int what : new int[] {-1, 0, 1, 2, 3, 4}) {
                EXPECT.cut(x, k, what, 0, Answers.NO_INDEX);
            }
        }
        for (int i : new int[] {-1, 4, 8, LEAST, MOST}) {
            EXPECT.cut(x, 3, 0, i, Answers.NO_INDEX);
            EXPECT.cut(x, 3, 1, i, "1");
            EXPECT.cut(x, 3, 2, i, "2");
            EXPECT.cut(x, 3, 3, i, "0");
        }
        for (int what : new int[] {-1, 4, LEAST, MOST}) {
            EXPECT.cut(x, 0, what, 0, Answers.NO_ARGUMENT);
            EXPECT.cut(x, 3, what, 3, Answers.NO_ARGUMENT);
        }
        EXPECT.cut(x, 0, 0, 0, "1");
        EXPECT.cut(x, 0, 0, 3, "2");
        EXPECT.cut(x, 3, 0, 0, "0");
        EXPECT.cut(x, 3, 0, 3, "1");
    }

    /** Ten rows of -2 and eight names: ten cuts of halves. */
    private static CutProofs full() {
        CutProofs x = Models.binaries(8);
        for (int r = 0; r < 10; r++) {
            x.row(-2);
        }
        EXPECT.due("find(0)", 10, x.find(0));
        return x;
    }

    /** proof: "NONE: there is no such CUT, ROW, NAME ..; BAD: another what, or an i that is not 0" */
    private static void proofEdges() {
        CutProofs x = full();
        for (int k : new int[] {-1, 10, 40, LEAST, MOST}) {
            for (int what = -1; what <= 4; what++) {
                EXPECT.due("no cut", -1, x.proof(k, what, 0));
            }
        }
        for (int i : new int[] {-1, 10, LEAST, MOST}) {
            EXPECT.due("no row", -1, x.proof(9, 0, i));
        }
        for (int i : new int[] {-1, 8, LEAST, MOST}) {
            EXPECT.due("no name", -1, x.proof(9, 1, i));
            EXPECT.due("no name", -1, x.proof(9, 2, i));
        }
        for (int i : new int[] {-1, 1, LEAST, MOST}) {
            EXPECT.due("an i that is not 0", -2, x.proof(9, 3, i));
        }
        for (int what : new int[] {-1, 4, LEAST, MOST}) {
            EXPECT.due("another what", -2, x.proof(9, what, 0));
            EXPECT.due("another what", -2, x.proof(0, what, 10));
        }
        EXPECT.due("row 0", 1, x.proof(9, 0, 0));
        EXPECT.due("row 9", 1, x.proof(9, 0, 9));
        EXPECT.due("row 9 of an earlier one", 0, x.proof(8, 0, 9));
        EXPECT.due("low of 7", 0, x.proof(9, 1, 7));
        EXPECT.due("high of 7", 0, x.proof(9, 2, 7));
        EXPECT.due("D", 2, x.proof(9, 3, 0));
        CutProofs y = new CutProofs();
        y.row(-9);
        EXPECT.due("without names", 4, y.find(1));
        EXPECT.due("no name at all", -1, y.proof(0, 1, 0));
        EXPECT.due("no name at all", -1, y.proof(0, 2, 0));
        EXPECT.due("D", 9, y.proof(3, 3, 0));
    }

    /** proof: "or its kind has no such thing", "of kind 2: the ROW, i being 0" */
    private static void proofsOfOtherKinds() {
        CutProofs x = Models.knapsack();
        x.find(2);
        EXPECT.due("the row", 0, x.proof(0, 0, 0));
        for (int i : new int[] {-1, 1, LEAST, MOST}) {
            EXPECT.due("an i that is not 0", -2, x.proof(0, 0, i));
        }
        for (int what = 1; what <= 3; what++) {
            EXPECT.due("no such thing", -1, x.proof(0, what, 0));
            EXPECT.due("no such thing, before a bad i", -1, x.proof(0, what, -1));
        }
        CutProofs y = Models.triangle();
        y.find(3);
        for (int what = 0; what <= 3; what++) {
            EXPECT.due("nothing else is shown", -1, y.proof(0, what, 0));
            EXPECT.due("nothing else is shown", -1, y.proof(0, what, 1));
        }
        for (int what : new int[] {-1, 4}) {
            EXPECT.due("another what", -2, x.proof(0, what, 0));
            EXPECT.due("another what", -2, y.proof(0, what, 0));
        }
    }

    /** plant: "NONE and BAD as proof(), BAD also: v is not - 1000 .. 1000." */
    private static void plantEdges() {
        CutProofs x = full();
        for (int k : new int[] {-1, 10, 40, LEAST, MOST}) {
            for (int what = -1; what <= 6; what++) {
                EXPECT.due("no cut", -1, x.plant(k, what, 0, 1001));
            }
        }
        int[] ends = {8, 1, 10, 8, 8, 1};
        for (int what = 0; what <= 5; what++) {
            int refusal = what == 1 || what == 5 ? -2 : -1;
            for (int i : new int[] {-1, ends[what], LEAST, MOST}) {
                EXPECT.due("what " + what + ", i " + i, refusal, x.plant(9, what, i, 0));
                EXPECT.due("what " + what + ", i before v", refusal, x.plant(9, what, i, 1001));
            }
            int last = ends[what] - 1;
            for (int v : new int[] {-1001, 1001, LEAST, MOST}) {
                EXPECT.due("v " + v, -2, x.plant(9, what, last, v));
            }
            EXPECT.due("the most", 1, x.plant(9, what, last, 1000));
            EXPECT.due("what was planted", 1000, planted(x, what, last));
            EXPECT.due("the least", 1, x.plant(9, what, last, -1000));
            EXPECT.due("what was planted", -1000, planted(x, what, last));
        }
        for (int what : new int[] {-1, 6, LEAST, MOST}) {
            EXPECT.due("another what", -2, x.plant(9, what, 0, 0));
        }
        EXPECT.due("another cut is as it was", 1, x.check(8));
    }

    private static int planted(CutProofs x, int what, int i) {
        return what < 2 ? x.cut(9, what, i) : x.proof(9, what - 2, i);
    }

    private static void plantsOfOtherKinds() {
        CutProofs x = Models.knapsack();
        x.find(2);
        EXPECT.due("the row", 1, x.plant(0, 2, 0, 1000));
        EXPECT.due("the row", 1000, x.proof(0, 0, 0));
        EXPECT.due("the row", 1, x.plant(0, 2, 0, -1000));
        EXPECT.due("a row of 1001", -2, x.plant(0, 2, 0, 1001));
        EXPECT.due("an i that is not 0", -2, x.plant(0, 2, 1, 0));
        EXPECT.due("the row", -1000, x.proof(0, 0, 0));
        CutProofs y = Models.triangle();
        y.find(3);
        for (int what = 2; what <= 5; what++) {
            EXPECT.due("nothing else is shown", -1, y.plant(0, what, 0, 0));
            EXPECT.due("before a bad i and v", -1, y.plant(0, what, 1, 1001));
            if (what > 2) EXPECT.due("covers have no such thing", -1, x.plant(0, what, 1, 1001));
        }
        EXPECT.due("another what", -2, y.plant(0, 6, 0, 0));
        EXPECT.due("a factor", 1, y.plant(0, 0, 2, 1000));
        EXPECT.due("the right", 1, y.plant(0, 1, 0, -1000));
        EXPECT.wholeCut(y, 0, 3, -1000, 1, 1, 1000);
    }

    /** strength: "IndexOutOfBoundsException: there is no such CUT; IllegalArgumentException: another part." */
    private static void strengthEdges() {
        CutProofs x = full();
        for (int k : new int[] {-1, 10, 40, LEAST, MOST}) {
            for (int part = -1; part <= 2; part++) {
                EXPECT.strength(x, k, part, Answers.NO_INDEX);
            }
        }
        for (int part : new int[] {-1, 2, LEAST, MOST}) {
            EXPECT.strength(x, 0, part, Answers.NO_ARGUMENT);
            EXPECT.strength(x, 9, part, Answers.NO_ARGUMENT);
        }
        EXPECT.strength(x, 0, 0, "1");
        EXPECT.strength(x, 9, 0, "10");
        EXPECT.strength(x, 9, 1, "1");
    }

    /** strength: "in lowest terms: .. 1 below (above 0)" */
    private static void strengthLowestTerms() {
        CutProofs x = full();
        x.plant(0, 1, 0, 0);
        EXPECT.strength(x, 0, 0, "0");
        EXPECT.strength(x, 0, 1, "1");
        int[] belows = {8, 9, 5, 7, 11};
        for (int n = 0; n < 5; n++) {
            x.plant(0, 0, n, 997);
            x.point(n, 397, belows[n]);
        }
        EXPECT.strength(x, 0, 0, "7349777321");
        EXPECT.strength(x, 0, 1, "27720");
        for (int n = 0; n < 5; n++) {
            x.plant(0, 0, n, -997);
        }
        EXPECT.strength(x, 0, 0, "-7349777321");
        EXPECT.strength(x, 0, 1, "27720");
        for (int n = 0; n < 8; n++) {
            x.plant(0, 0, n, 1000);
            x.point(n, 400, 1);
        }
        x.plant(0, 1, 0, -1000);
        EXPECT.strength(x, 0, 0, "3201000");
        for (int n = 0; n < 8; n++) {
            x.point(n, -400, 1);
        }
        x.plant(0, 1, 0, 1000);
        EXPECT.strength(x, 0, 0, "-3201000");
        EXPECT.strength(x, 0, 1, "1");
    }

    /** best: "of like ones the first. NONE: there is no CUT." */
    private static void bestEdges() {
        CutProofs x = full();
        EXPECT.due("the last", 9, x.best());
        x.plant(0, 1, 0, -10);
        EXPECT.due("of like ones the first", 0, x.best());
        for (int k = 0; k < 10; k++) {
            x.plant(k, 1, 0, k == 4 || k == 7 ? 999 : 1000);
        }
        EXPECT.due("all below 0", 4, x.best());
        x.plant(4, 1, 0, 1000);
        EXPECT.due("all below 0", 7, x.best());
        for (int k = 0; k < 10; k++) {
            x.plant(k, 1, 0, 0);
        }
        EXPECT.due("all are 0", 0, x.best());
        x.plant(3, 0, 0, 1);
        x.plant(5, 0, 1, 1);
        x.point(0, 1, 12);
        x.point(1, 1, 11);
        EXPECT.due("1 / 11 is above 1 / 12", 5, x.best());
        x.point(1, 2, 12);
        x.point(0, 1, 6);
        EXPECT.due("1 / 6 is 2 / 12", 3, x.best());
        for (int k = 0; k < 10; k++) {
            x.plant(k, 1, 0, 1000);
        }
        for (int t = 0; t < 3; t++) {
            x.turn();
        }
        EXPECT.due("no cut is left", -1, x.best());
    }

    /** holds: "NONE" */
    private static void holdsEdges() {
        CutProofs x = full();
        for (int k : new int[] {-1, 10, 40, LEAST, MOST}) {
            EXPECT.due("holds(" + k + ")", -1, x.holds(k));
        }
        EXPECT.due("no plans: each keeps it", 1, x.holds(0));
        EXPECT.due("no plans: each keeps it", 1, x.holds(9));
        x.name(0, 1);
        x.clear();
        EXPECT.due("no cut", -1, x.holds(0));
    }

    /** holds, plans: "FULL: there are more than 20000 choices of numbers from LOWS to HIGHS." */
    private static void choicesUpTo20000() {
        CutProofs x = withChoices(25, 25, 4, 4, 2);
        EXPECT.due("20000 choices", 20000, x.plans());
        addCut(x, 0);
        EXPECT.due("20000 choices", 1, x.holds(0));
        EXPECT.wholeCut(x, 0, 1, 4999, 25, 0, 0, 0, 0);
        x.plant(0, 1, 0, -150);
        EXPECT.due("25 times -6 is not above -150", 1, x.holds(0));
        x.plant(0, 1, 0, -151);
        EXPECT.due("it is above -151", 0, x.holds(0));
        CutProofs y = withChoices(27, 39, 19);
        EXPECT.due("20007 choices", -4, y.plans());
        addCut(y, 0);
        EXPECT.due("20007 choices", -4, y.holds(0));
        EXPECT.due("none before full", -1, y.holds(y.told(2)));
        CutProofs z = withChoices(59, 60, 1, 1, 1, 1, 1, 1);
        EXPECT.due("3540 choices of eight names", 3540, z.plans());
        CutProofs w = withChoices(61, 61, 6);
        EXPECT.due("22326 choices", -4, w.plans());
        w.row(-1);
        EXPECT.due("as many choices, though no plan", -4, w.plans());
    }

    /** A product of 2 to the 32nd and more must not come out as few choices. */
    private static void choicesThatWrapAround() {
        CutProofs x = withChoices(16, 16, 16, 16, 16, 16, 16, 16);
        EXPECT.due("2 to the 32nd", -4, x.plans());
        addCut(x, 0);
        EXPECT.due("2 to the 32nd", -4, x.holds(0));
        CutProofs y = withChoices(61, 61, 61, 61, 61, 61, 61, 61);
        EXPECT.due("61 to the 8th", -4, y.plans());
        CutProofs z = withChoices(32, 32, 32, 32, 32, 32, 4, 1);
        EXPECT.due("2 to the 32nd", -4, z.plans());
        CutProofs w = withChoices(32, 32, 32, 32, 32, 32, 32, 32);
        EXPECT.due("2 to the 40th", -4, w.plans());
    }

    private static CutProofs withChoices(int... numbers) {
        CutProofs x = new CutProofs();
        for (int count : numbers) {
            EXPECT.due("name", 1, x.name(-30, -31 + count) >= 0 ? 1 : 0);
        }
        return x;
    }

    /** A row that bounds nothing; by twice the first name, at a point far out, it gives a cut. */
    private static void addCut(CutProofs x, int name) {
        int r = x.row(9999);
        x.factor(r, name, 50);
        x.point(name, 400, 1);
        EXPECT.due("a cut", 1, x.find(1) > 0 ? 1 : 0);
    }

    /** plans: "(1 without NAMES, if each RIGHT is 0 or more.)" */
    private static void plansWithoutNames() {
        CutProofs x = new CutProofs();
        EXPECT.due("no row", 1, x.plans());
        for (int r = 0; r < 9; r++) {
            x.row(r == 4 ? 0 : 9999);
            EXPECT.due("rights of 0 or more", 1, x.plans());
        }
        x.row(-1);
        EXPECT.due("the last is below 0", 0, x.plans());
        x.find(0);
        EXPECT.due("no plan that breaks it", 1, x.holds(0));
        CutProofs y = new CutProofs();
        y.row(-1);
        y.row(0);
        EXPECT.due("the first is below 0", 0, y.plans());
    }

    /** turn: "below their RIGHT are a turn older, the others are of age 0 (so at first)" */
    private static void turnEdges() {
        CutProofs x = Models.triangle();
        EXPECT.due("no cut", 0, x.turn());
        x.find(3);
        EXPECT.cut(x, 0, 3, 0, "0");
        x.point(0, 1, 12);
        x.point(1, 5, 12);
        EXPECT.due("1 / 12 + 5 / 12 + 1 / 2 is 1", 0, x.turn());
        EXPECT.cut(x, 0, 3, 0, "0");
        x.point(1, 4, 12);
        EXPECT.due("11 / 12", 0, x.turn());
        EXPECT.cut(x, 0, 3, 0, "1");
        EXPECT.due("once more", 0, x.turn());
        EXPECT.cut(x, 0, 3, 0, "2");
        EXPECT.due("it is still there", 1, x.told(2));
        x.point(1, 5, 12);
        EXPECT.due("not below", 0, x.turn());
        EXPECT.cut(x, 0, 3, 0, "0");
        x.point(1, 4, 12);
        EXPECT.due("1", 0, x.turn());
        EXPECT.due("2", 0, x.turn());
        EXPECT.due("3", 1, x.turn());
        EXPECT.due("gone", 0, x.told(2));
        EXPECT.due("nothing more", 0, x.turn());
        Models.pointAll(x, 3, 1, 2);
        EXPECT.due("taken anew", 1, x.find(3));
        EXPECT.cut(x, 0, 3, 0, "0");
    }

    /** turn: "those that come to 3 go, those behind move up" */
    private static void turnsMoveUp() {
        CutProofs x = full();
        for (int k = 0; k < 10; k += 9) {
            x.plant(k, 1, 0, 900 + k);
        }
        x.plant(4, 1, 0, 904);
        x.plant(5, 1, 0, 905);
        x.turn();
        x.plant(3, 1, 0, 903);
        x.turn();
        EXPECT.due("the first, two in the midst, the last", 4, x.turn());
        int[] rights = {-2, -3, 903, -7, -8, -9};
        int[] rowsTaken = {2, 3, 4, 7, 8, 9};
        EXPECT.due("told(2)", 6, x.told(2));
        for (int k = 0; k < 6; k++) {
            EXPECT.wholeCut(x, k, 0, rights[k], 0, 0, 0, 0, 0, 0, 0, 0);
            EXPECT.cut(x, k, 3, 0, k == 2 ? "2" : "0");
            for (int r = 0; r < 10; r++) {
                EXPECT.due("row", r < rowsTaken[k] ? 1 : 0, x.proof(k, 0, r));
            }
        }
        EXPECT.cut(x, 6, 1, 0, Answers.NO_INDEX);
        EXPECT.due("one more comes to 3", 1, x.turn());
        EXPECT.cut(x, 2, 1, 0, "-7");
        EXPECT.cut(x, 4, 1, 0, "-9");
        EXPECT.due("none is older", 0, x.turn());
        EXPECT.due("the five that went come behind", 5, x.find(0));
        int[] found = {-1, -4, -5, -6, -10};
        for (int k = 0; k < 5; k++) {
            EXPECT.cut(x, 5 + k, 1, 0, Integer.toString(found[k]));
            EXPECT.cut(x, 5 + k, 3, 0, "0");
        }
    }

    private static void turnOfForty() {
        CutProofs x = Models.negativeRights(1, 2, 4, 8, 16, 32);
        x.find(0);
        for (int k = 0; k < 40; k++) {
            if (k != 20) x.plant(k, 1, 0, 1 + k);
        }
        EXPECT.due("turn()", 0, x.turn());
        EXPECT.due("turn()", 0, x.turn());
        EXPECT.due("all but one", 39, x.turn());
        EXPECT.wholeCut(x, 0, 0, -21);
        EXPECT.due("all but that one and as many as have room", 39, x.find(0));
        EXPECT.due("closed()", 0, x.closed());
        EXPECT.cut(x, 39, 1, 0, "-40");
        x.plant(0, 1, 0, 0);
        EXPECT.due("a sum of 0 is not below 0", 0, x.turn());
        EXPECT.cut(x, 0, 3, 0, "0");
    }

    /** told: "BAD." */
    private static void toldEdges() {
        CutProofs x = full();
        for (int what : new int[] {-1, 5, LEAST, MOST}) {
            EXPECT.due("told(" + what + ")", -2, x.told(what));
        }
        int[] due = {8, 10, 10, 10, 10};
        for (int what = 0; what <= 4; what++) {
            EXPECT.due("told(" + what + ")", due[what], x.told(what));
        }
        x.plant(0, 1, 0, 0);
        EXPECT.due("a strength of 0 is not broken", 9, x.told(3));
        EXPECT.due("accepted all the same", 10, x.told(4));
        x.plant(9, 1, 0, -11);
        EXPECT.due("broken", 9, x.told(3));
        EXPECT.due("not accepted", 9, x.told(4));
    }

    /** clear: "All is as at first." */
    private static void clearedIsNew() {
        CutProofs x = full();
        for (int r = 0; r < 10; r++) {
            for (int n = 0; n < 8; n++) {
                x.factor(r, n, 1 + r + n);
            }
        }
        for (int kind = 3; kind >= 0; kind--) {
            Models.pointAll(x, 8, kind % 2 == 0 ? 399 : 0, 7);
            x.find(kind);
        }
        EXPECT.due("there is much to clear", 40, x.told(2));
        x.turn();
        x.clear();
        CutProofs y = Models.negativeRights(1, 2, 4, 8, 16, 32);
        y.find(0);
        EXPECT.due("closed()", 0, y.closed());
        y.clear();
        String first = Look.built(new CutProofs());
        EXPECT.due("behind clear()", first, Look.built(x));
        EXPECT.due("behind clear()", first, Look.built(y));
        x.clear();
        x.clear();
        EXPECT.due("cleared twice", first, Look.built(x));
        x.clear();
        x.name(0, 1);
        x.row(-1);
        x.find(0);
        x.plant(0, 0, 0, 1000);
        EXPECT.strength(x, 0, 0, "1");
    }
}
