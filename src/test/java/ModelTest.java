/** Promises 1 to 5 and 18: a new object, name, row, factor, point, clear. */
public final class ModelTest {
    private static final Expect EXPECT = new Expect();

    public static void main(String[] args) {
        newObject();
        names();
        rows();
        factors();
        points();
        cutsGoWithTheModel();
        clear();
        EXPECT.end();
    }

    private static void isEmpty(CutProofs x) {
        for (int what = 0; what <= 4; what++) {
            EXPECT.due("told(" + what + ")", 0, x.told(what));
        }
        EXPECT.due("closed()", 1, x.closed());
        EXPECT.due("best()", -1, x.best());
        EXPECT.due("plans()", 1, x.plans());
        EXPECT.due("turn()", 0, x.turn());
        EXPECT.due("factor(0, 0, 0)", -1, x.factor(0, 0, 0));
        EXPECT.due("point(0, 0, 1)", -1, x.point(0, 0, 1));
    }

    private static void newObject() {
        isEmpty(new CutProofs());
        CutProofs x = new CutProofs();
        for (int kind = 0; kind <= 3; kind++) {
            EXPECT.due("find of nothing", 0, x.find(kind));
        }
    }

    private static void names() {
        CutProofs x = new CutProofs();
        EXPECT.due("low", -2, x.name(-31, 0));
        EXPECT.due("high", -2, x.name(0, 31));
        EXPECT.due("low above", -2, x.name(31, 31));
        EXPECT.due("high below", -2, x.name(-31, -31));
        EXPECT.due("crossed", -2, x.name(1, 0));
        EXPECT.due("far", -2, x.name(Integer.MIN_VALUE, Integer.MAX_VALUE));
        EXPECT.due("none was made", 0, x.told(0));
        EXPECT.due("widest", 0, x.name(-30, 30));
        EXPECT.due("one number", 1, x.name(5, 5));
        for (int n = 2; n < 8; n++) {
            EXPECT.due("name", n, x.name(30, 30));
        }
        EXPECT.due("full", -4, x.name(0, 1));
        EXPECT.due("bad stands before full", -2, x.name(1, 0));
        EXPECT.due("names", 8, x.told(0));
    }

    private static void rows() {
        CutProofs x = new CutProofs();
        EXPECT.due("right", -2, x.row(-10000));
        EXPECT.due("right", -2, x.row(10000));
        EXPECT.due("right", -2, x.row(Integer.MIN_VALUE));
        EXPECT.due("right", -2, x.row(Integer.MAX_VALUE));
        EXPECT.due("none was made", 0, x.told(1));
        EXPECT.due("row", 0, x.row(-9999));
        for (int r = 1; r < 10; r++) {
            EXPECT.due("row", r, x.row(9999));
        }
        EXPECT.due("full", -4, x.row(0));
        EXPECT.due("bad stands before full", -2, x.row(10000));
        EXPECT.due("rows", 10, x.told(1));
    }

    private static void factors() {
        CutProofs x = new CutProofs();
        x.name(0, 1);
        x.row(3);
        x.name(0, 1);
        x.row(4);
        EXPECT.due("no row", -1, x.factor(2, 0, 1));
        EXPECT.due("no row", -1, x.factor(-1, 0, 1));
        EXPECT.due("no name", -1, x.factor(0, 2, 1));
        EXPECT.due("no name", -1, x.factor(0, -1, 1));
        EXPECT.due("none stands before bad", -1, x.factor(0, 2, 51));
        EXPECT.due("bad", -2, x.factor(0, 0, 51));
        EXPECT.due("bad", -2, x.factor(0, 0, -51));
        EXPECT.due("at first", 0, x.factor(0, 0, 50));
        EXPECT.due("was", 50, x.factor(0, 0, -50));
        EXPECT.due("was", -50, x.factor(0, 0, -2));
        EXPECT.due("was -2", -2, x.factor(0, 0, -1));
        EXPECT.due("was -1", -1, x.factor(0, 0, 0));
        EXPECT.due("other name", 0, x.factor(0, 1, 7));
        EXPECT.due("other row", 0, x.factor(1, 1, 8));
        EXPECT.due("kept", 7, x.factor(0, 1, 7));
        EXPECT.due("kept", 8, x.factor(1, 1, 8));
    }

    private static void points() {
        CutProofs x = new CutProofs();
        x.name(0, 9);
        EXPECT.due("no name", -1, x.point(1, 0, 1));
        EXPECT.due("no name", -1, x.point(-1, 0, 1));
        EXPECT.due("none stands before bad", -1, x.point(1, 0, 0));
        EXPECT.due("below", -2, x.point(0, 0, 0));
        EXPECT.due("below", -2, x.point(0, 0, 13));
        EXPECT.due("below", -2, x.point(0, 0, -1));
        EXPECT.due("above", -2, x.point(0, 401, 1));
        EXPECT.due("above", -2, x.point(0, -401, 1));
        EXPECT.due("edge", 1, x.point(0, 400, 12));
        EXPECT.due("edge", 1, x.point(0, -400, 1));
        x.row(-1);
        EXPECT.due("find(0)", 1, x.find(0));
        EXPECT.wholeCut(x, 0, 0, -1, 0);
        x.plant(0, 0, 0, 1);
        x.plant(0, 1, 0, 0);
        for (int below = 1; below <= 12; below++) {
            x.point(0, 1, below);
            EXPECT.strength(x, 0, 0, "1");
            EXPECT.strength(x, 0, 1, Integer.toString(below));
        }
        EXPECT.due("refused", -2, x.point(0, 1, 13));
        EXPECT.strength(x, 0, 1, "12");
        EXPECT.due("cuts stay", 1, x.told(2));
    }

    private static void cutsGoWithTheModel() {
        CutProofs x = Models.triangle();
        EXPECT.due("find(0)", 1, x.find(0));
        EXPECT.due("refused", -2, x.name(1, 0));
        EXPECT.due("refused", -2, x.row(10000));
        EXPECT.due("refused", -1, x.factor(3, 0, 1));
        EXPECT.due("refused", -2, x.factor(0, 0, 51));
        EXPECT.due("cuts stay", 1, x.told(2));
        EXPECT.due("factor(0, 0, 1)", 1, x.factor(0, 0, 1));
        EXPECT.due("cuts are gone", 0, x.told(2));
        EXPECT.due("find(0)", 1, x.find(0));
        EXPECT.due("row(9)", 3, x.row(9));
        EXPECT.due("cuts are gone", 0, x.told(2));
        EXPECT.due("find(3)", 1, x.find(3));
        EXPECT.due("name(0, 1)", 3, x.name(0, 1));
        EXPECT.due("cuts are gone", 0, x.told(2));
    }

    private static void clear() {
        CutProofs x = Models.negativeRights(1, 2, 4, 8, 16, 32);
        x.find(0);
        EXPECT.due("closed()", 0, x.closed());
        x.clear();
        isEmpty(x);
        x = Models.triangle();
        x.find(0);
        x.clear();
        isEmpty(x);
        EXPECT.due("name again", 0, x.name(0, 4));
        EXPECT.due("row again", 0, x.row(-1));
        EXPECT.due("factor at first", 0, x.factor(0, 0, 0));
        EXPECT.due("find(1)", 1, x.find(1));
        EXPECT.wholeCut(x, 0, 1, -1, 0);
        x.plant(0, 0, 0, 1);
        EXPECT.strength(x, 0, 0, "1");
    }
}
