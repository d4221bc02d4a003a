import java.util.Random;

/** Runs of calls, drawn from fixed seeds, against the oracle; every cut is read whole at times. */
public final class OracleTest {
    private static final int[] STRANGE = {-1, -2, 3, 8, 10, 40, 41, 1001, -1001, Integer.MIN_VALUE, Integer.MAX_VALUE};

    private final Expect expect = new Expect();
    private final int[] takenOfKind = new int[4];
    private int fullFinds = 0;
    private Random random;
    private CutProofs x;
    private Oracle o;
    private String run;

    public static void main(String[] args) {
        new OracleTest().runAll();
    }

    private void runAll() {
        for (int seed = 0; seed < 480; seed++) {
            random = new Random(seed);
            x = new CutProofs();
            o = new Oracle();
            int style = seed % 6;
            for (int part = 0; part < 2; part++) {
                run = "seed " + seed + ": ";
                build(style);
                for (int call = 0; call < 60; call++) {
                    anyCall(style);
                }
                readAll();
                if (random.nextInt(3) == 0) clear();
            }
        }
        for (int kind = 0; kind <= 3; kind++) {
            System.out.println("kind " + kind + ": " + takenOfKind[kind] + " cuts");
            expect.due("enough cuts of a kind to compare", 1, takenOfKind[kind] > 300 ? 1 : 0);
        }
        expect.due("finds that ended full", 1, fullFinds > 20 ? 1 : 0);
        expect.end();
    }

    private int from(int low, int high) {
        return low + random.nextInt(high - low + 1);
    }

    private int strange(int usual) {
        return random.nextInt(25) == 0 ? STRANGE[random.nextInt(STRANGE.length)] : usual;
    }

    private void due(String call, long want, long got) {
        expect.due(run + call, want, got);
    }

    /** Styles: 0, 1 binary and tight, 2 mixed, 3 small whole numbers, 4 far rights, 5 all ranges. */
    private void build(int style) {
        int names = style <= 1 ? from(3, 8) : from(0, style == 3 ? 4 : 8);
        int rows = style == 5 ? from(0, 10) : from(1, 6);
        for (int n = 0; n < names; n++) {
            boolean binary = style <= 1 || style == 2 && random.nextInt(4) != 0;
            int a = style == 5 ? from(-30, 30) : from(-3, 4);
            int b = style == 5 ? from(-30, 30) : from(-3, 4);
            name(binary ? 0 : Math.min(a, b), binary ? 1 : Math.max(a, b));
        }
        for (int r = 0; r < rows; r++) {
            row(style == 5 ? from(-300, 300) : style == 4 ? from(-9999, 9999) : from(-4, 12));
            for (int n = 0; n < names; n++) {
                int most = style == 0 ? 2 : style == 5 ? 50 : 9;
                if (random.nextInt(4) != 0) factor(r, n, from(style == 0 ? -1 : -most / 2, most));
            }
        }
        for (int n = 0; n < names; n++) {
            int below = from(1, 12);
            point(n, style <= 2 ? from(0, below) : from(-2 * below, 4 * below), below);
        }
        for (int kind = 0; kind <= 3; kind++) {
            if (random.nextInt(3) != 0) find(kind);
        }
        readAll();
    }

    private void anyCall(int style) {
        int cuts = Math.max(1, (int) o.told(2));
        int names = Math.max(1, (int) o.told(0));
        int rows = Math.max(1, (int) o.told(1));
        int k = strange(random.nextInt(cuts));
        int n = strange(random.nextInt(names));
        switch (random.nextInt(24)) {
            case 0: if (random.nextInt(8) == 0) name(strange(from(-2, 1)), strange(from(0, 2))); break;
            case 1: if (random.nextInt(8) == 0) row(strange(from(-3, 9))); break;
            case 2: if (random.nextInt(6) == 0) factor(strange(random.nextInt(rows)), n, strange(from(-5, 9))); break;
            case 3: case 4: point(n, strange(from(-3, 15)), strange(from(1, 12))); break;
            case 5: case 6: case 7: find(strange(from(0, 3))); break;
            case 8: cut(k, strange(from(0, 3)), n); break;
            case 9: case 10: proof(k, strange(from(0, 3)), strange(random.nextBoolean() ? 0 : n)); break;
            case 11: case 12: plantSome(k, n, style); break;
            case 13: case 14: due("check(" + k + ")", o.check(k), x.check(k)); break;
            case 15: strength(k, strange(from(0, 1))); break;
            case 16: due("best()", o.best(), x.best()); break;
            case 17: due("holds(" + k + ")", o.holds(k), x.holds(k)); break;
            case 18: due("plans()", o.plans(), x.plans()); break;
            case 19: case 20: case 21: due("turn()", o.turn(), x.turn()); break;
            case 22: told(strange(from(0, 4))); break;
            default: due("closed()", o.closed(), x.closed()); break;
        }
    }

    private void plantSome(int k, int n, int style) {
        int what = strange(from(0, 5));
        int v = random.nextInt(4) == 0 ? from(-1000, 1000) : from(style == 5 ? -9 : 0, 3);
        int i = random.nextBoolean() ? 0 : n;
        int planted = strange(v);
        due("plant(" + k + ", " + what + ", " + i + ", " + planted + ")", o.plant(k, what, i, planted), x.plant(k, what, i, planted));
        due("check(" + k + ")", o.check(k), x.check(k));
    }

    private void name(int low, int high) {
        due("name(" + low + ", " + high + ")", o.name(low, high), x.name(low, high));
    }

    private void row(int right) {
        due("row(" + right + ")", o.row(right), x.row(right));
    }

    private void factor(int r, int n, int v) {
        due("factor(" + r + ", " + n + ", " + v + ")", o.factor(r, n, v), x.factor(r, n, v));
    }

    private void point(int n, int above, int below) {
        due("point(" + n + ", " + above + ", " + below + ")", o.point(n, above, below), x.point(n, above, below));
    }

    private void find(int kind) {
        long before = o.told(2);
        long taken = o.find(kind);
        if (taken > 0) takenOfKind[kind] += (int) taken;
        if (o.closed() == 0) fullFinds++;
        due("find(" + kind + ")", taken, x.find(kind));
        due("closed()", o.closed(), x.closed());
        for (long k = before; k < before + taken; k++) {
            due("check of a cut as it was found", 1, x.check((int) k));
            due("a plan that it bars", 0, x.holds((int) k) == 0 ? 1 : 0);
        }
        if (taken > 0) readAll();
    }

    private void cut(int k, int what, int i) {
        expect.due(run + "cut(" + k + ", " + what + ", " + i + ")", o.cut(k, what, i), Answers.cut(x, k, what, i));
    }

    private void strength(int k, int part) {
        expect.due(run + "strength(" + k + ", " + part + ")", o.strength(k, part), Answers.strength(x, k, part));
    }

    private void proof(int k, int what, int i) {
        due("proof(" + k + ", " + what + ", " + i + ")", o.proof(k, what, i), x.proof(k, what, i));
    }

    private void told(int what) {
        due("told(" + what + ")", o.told(what), x.told(what));
    }

    private void clear() {
        o.clear();
        x.clear();
        for (int what = 0; what <= 4; what++) {
            told(what);
        }
    }

    private void readAll() {
        for (int what = 0; what <= 4; what++) {
            told(what);
        }
        long cuts = o.told(2);
        for (int k = 0; k < cuts; k++) {
            for (int i = 0; i <= 10; i++) {
                cut(k, 0, i);
                proof(k, 0, i);
                proof(k, 1, i);
                proof(k, 2, i);
            }
            for (int what = 1; what <= 3; what++) {
                cut(k, what, 0);
            }
            proof(k, 3, 0);
            due("check(" + k + ")", o.check(k), x.check(k));
            strength(k, 0);
            strength(k, 1);
        }
    }
}
