import java.util.function.Supplier;
import java.util.function.ToLongFunction;

/** "Refusals .. change nothing": an object that has refused a call tells all that its twin tells. */
public final class RefusedTest {
    private static final Expect EXPECT = new Expect();
    private static final int[] FAR = {Integer.MIN_VALUE, -1001, 1001, Integer.MAX_VALUE};

    /** A call as its text and what it answers; a thrown exception answers THROWN. */
    private record Call(String text, ToLongFunction<CutProofs> run, long want) {
    }

    private static final long THROWN = Long.MIN_VALUE;

    private static Supplier<CutProofs> make;
    private static String untouched;

    public static void main(String[] args) {
        start(CutProofs::new);
        refuseInEmpty();
        start(RefusedTest::mixed);
        hasEachKind();
        refuseInAny(4, 5, 5);
        refuseProofs();
        refusePlants();
        start(RefusedTest::full);
        refuseInAny(8, 10, 40);
        refuseInFull();
        EXPECT.end();
    }

    private static void start(Supplier<CutProofs> maker) {
        make = maker;
        untouched = Look.throughout(make.get());
        EXPECT.due("twins are alike", untouched, Look.throughout(make.get()));
    }

    private static void refuse(String text, long want, ToLongFunction<CutProofs> run) {
        refuse(new Call(text, run, want));
    }

    private static void refuse(Call call) {
        CutProofs x = make.get();
        long got;
        try {
            got = call.run.applyAsLong(x);
        } catch (IndexOutOfBoundsException | IllegalArgumentException e) {
            got = THROWN;
        }
        EXPECT.due(call.text, call.want, got);
        EXPECT.due("all behind " + call.text, untouched, Look.throughout(x));
    }

    /** Cuts of each kind, some told otherwise, some older; three names are binary, the fourth is -2 .. 3. */
    private static CutProofs mixed() {
        CutProofs x = Models.binaries(3);
        x.name(-2, 3);
        Models.addRow(x, 1, 1, 1, 0, 0);
        Models.addRow(x, 1, 0, 1, 1, 0);
        Models.addRow(x, 1, 1, 0, 1, 0);
        Models.addRow(x, 5, 0, 0, 0, 2);
        Models.addRow(x, 2, 4, -3, 0, 0);
        Models.pointAll(x, 3, 5, 12);
        x.point(0, 7, 12);
        x.point(3, 5, 2);
        x.find(3);
        x.plant(0, 1, 0, 2);
        x.turn();
        x.find(2);
        x.find(1);
        x.find(0);
        return x;
    }

    private static void hasEachKind() {
        int[] kinds = {3, 2, 1, 0, 0};
        for (int k = 0; k < 5; k++) {
            EXPECT.cut(make.get(), k, 2, 0, Integer.toString(kinds[k]));
        }
    }

    /** All names, all rows and all cuts, and one more that was to be taken; more than 20000 choices. */
    private static CutProofs full() {
        CutProofs x = new CutProofs();
        for (int n = 0; n < 8; n++) {
            x.name(0, 9);
        }
        for (int r = 0; r < 10; r++) {
            x.row(-2 << r);
        }
        x.factor(9, 7, 50);
        x.find(0);
        return x;
    }

    private static void refuseInEmpty() {
        refuse("name(0, -1)", -2, x -> x.name(0, -1));
        refuse("row(10000)", -2, x -> x.row(10000));
        refuse("factor(0, 0, 1)", -1, x -> x.factor(0, 0, 1));
        refuse("point(0, 1, 1)", -1, x -> x.point(0, 1, 1));
        refuse("find(4)", -2, x -> x.find(4));
        refuse("cut(0, 0, 0)", THROWN, x -> x.cut(0, 0, 0));
        refuse("proof(0, 0, 0)", -1, x -> x.proof(0, 0, 0));
        refuse("plant(0, 0, 0, 0)", -1, x -> x.plant(0, 0, 0, 0));
        refuse("check(0)", -1, x -> x.check(0));
        refuse("strength(0, 0)", THROWN, x -> x.strength(0, 0));
        refuse("best()", -1, x -> x.best());
        refuse("holds(0)", -1, x -> x.holds(0));
        refuse("told(5)", -2, x -> x.told(5));
    }

    /** Calls that are refused whatever the numbers of names, rows and cuts are. */
    private static void refuseInAny(int names, int rows, int cuts) {
        EXPECT.due("names", names, make.get().told(0));
        EXPECT.due("rows", rows, make.get().told(1));
        EXPECT.due("cuts", cuts, make.get().told(2));
        refuse("name(-31, 0)", -2, x -> x.name(-31, 0));
        refuse("name(0, 31)", -2, x -> x.name(0, 31));
        refuse("name(1, 0)", -2, x -> x.name(1, 0));
        refuse("row(-10000)", -2, x -> x.row(-10000));
        refuse("row(10000)", -2, x -> x.row(10000));
        for (int v : new int[] {-51, 51}) {
            refuse("factor(0, 0, " + v + ")", -2, x -> x.factor(0, 0, v));
        }
        refuse("factor(-1, 0, 1)", -1, x -> x.factor(-1, 0, 1));
        refuse("factor(rows, 0, 1)", -1, x -> x.factor(rows, 0, 1));
        refuse("factor(0, -1, 1)", -1, x -> x.factor(0, -1, 1));
        refuse("factor(0, names, 1)", -1, x -> x.factor(0, names, 1));
        refuse("point(-1, 1, 1)", -1, x -> x.point(-1, 1, 1));
        refuse("point(names, 1, 1)", -1, x -> x.point(names, 1, 1));
        refuse("point(0, 1, 0)", -2, x -> x.point(0, 1, 0));
        refuse("point(0, 1, 13)", -2, x -> x.point(0, 1, 13));
        refuse("point(0, -401, 1)", -2, x -> x.point(0, -401, 1));
        refuse("point(0, 401, 1)", -2, x -> x.point(0, 401, 1));
        refuse("find(-1)", -2, x -> x.find(-1));
        refuse("find(4)", -2, x -> x.find(4));
        for (int k : new int[] {-1, cuts}) {
            refuse("cut of " + k, THROWN, x -> x.cut(k, 0, 0));
            refuse("proof of " + k, -1, x -> x.proof(k, 0, 0));
            refuse("plant of " + k, -1, x -> x.plant(k, 1, 0, 0));
            refuse("check of " + k, -1, x -> x.check(k));
            refuse("strength of " + k, THROWN, x -> x.strength(k, 0));
            refuse("holds of " + k, -1, x -> x.holds(k));
        }
        refuse("cut(0, 0, names)", THROWN, x -> x.cut(0, 0, names));
        refuse("cut(0, 4, 0)", THROWN, x -> x.cut(0, 4, 0));
        refuse("strength(0, 2)", THROWN, x -> x.strength(0, 2));
        refuse("told(-1)", -2, x -> x.told(-1));
        refuse("told(5)", -2, x -> x.told(5));
    }

    private static void refuseProofs() {
        CutProofs whole = make.get();
        for (int k = 0; k < whole.told(2); k++) {
            int cut = k;
            int kind = whole.cut(k, 2, 0);
            for (int what = -1; what <= 4; what++) {
                int part = what;
                long want = refusalOfFarI(kind, what);
                for (int i : FAR) {
                    refuse("proof(" + k + ", " + what + ", " + i + ")", want, x -> x.proof(cut, part, i));
                }
            }
        }
    }

    private static void refusePlants() {
        CutProofs whole = make.get();
        for (int k = 0; k < whole.told(2); k++) {
            int cut = k;
            int kind = whole.cut(k, 2, 0);
            for (int what = -1; what <= 6; what++) {
                int part = what;
                long farI = what == 0 ? -1 : what == 1 ? -2 : what < 0 ? -2 : refusalOfFarI(kind, what - 2);
                boolean hasIt = what < 2 || kind < 2 || kind == 2 && what == 2 || what == 6;
                for (int far : FAR) {
                    String text = "plant(" + k + ", " + what + ", ";
                    refuse(text + far + ", 1)", farI, x -> x.plant(cut, part, far, 1));
                    refuse(text + "0, " + far + ")", hasIt ? -2 : -1, x -> x.plant(cut, part, 0, far));
                }
            }
        }
    }

    /** What proof() answers with an i that is neither 0 nor the number of a row or a name. */
    private static long refusalOfFarI(int kind, int what) {
        if (what < 0 || what > 3) return -2;
        if (kind == 3 || kind == 2 && what != 0) return -1;
        return kind == 2 || what == 3 ? -2 : -1;
    }

    private static void refuseInFull() {
        EXPECT.due("one more was to be taken", 0, make.get().closed());
        refuse("name(0, 1)", -4, x -> x.name(0, 1));
        refuse("row(0)", -4, x -> x.row(0));
        refuse("plans()", -4, x -> x.plans());
        refuse("holds(0)", -4, x -> x.holds(0));
        refuse("holds(39)", -4, x -> x.holds(39));
        refuse("find without room", 0, x -> x.find(0));
    }
}
