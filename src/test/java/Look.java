/** All that an object tells, as one text, so that two objects can be held against each other. */
final class Look {
    /** An object answers for 512 calls: of more cuts than a few only those at the ends are read. */
    private static final int FEW = 5, ENDS = 2;

    private final CutProofs x;
    private final StringBuilder text = new StringBuilder();

    private Look(CutProofs x) {
        this.x = x;
    }

    /** What is told now, what would be found and go, and, at last, what the factors were. */
    static String throughout(CutProofs x) {
        Look look = new Look(x);
        look.readAll();
        for (int kind = 0; kind <= 3; kind++) {
            look.add(x.find(kind));
            look.add(x.closed());
        }
        for (int t = 0; t < 3; t++) {
            look.add(x.turn());
        }
        look.readAll();
        look.readFactors();
        look.fill();
        return look.text.toString();
    }

    /** Builds the same model in any object and looks at it. */
    static String built(CutProofs x) {
        StringBuilder before = new StringBuilder();
        for (int what = 0; what <= 4; what++) {
            before.append(x.told(what)).append(' ');
        }
        before.append(x.closed()).append(' ').append(x.best()).append(' ').append(x.plans()).append('\n');
        x.name(0, 1);
        x.row(-3);
        x.name(-2, 3);
        x.row(1);
        x.name(0, 1);
        before.append(x.factor(1, 0, 1)).append(' ').append(x.factor(1, 2, 2)).append('\n');
        x.point(0, 2, 3);
        x.point(1, 1, 3);
        x.point(2, 3, 4);
        return before.append(throughout(x)).toString();
    }

    private void add(long answer) {
        text.append(answer).append(' ');
    }

    private void readAll() {
        for (int what = 0; what <= 4; what++) {
            add(x.told(what));
        }
        add(x.closed());
        add(x.best());
        add(x.plans());
        text.append('\n');
        int cuts = x.told(2);
        for (int k = 0; k < cuts; k++) {
            if (cuts <= FEW || k < ENDS || k >= cuts - ENDS) readCut(k);
        }
    }

    private void readCut(int k) {
        for (int what = 1; what <= 3; what++) {
            add(x.cut(k, what, 0));
        }
        int names = x.told(0);
        for (int n = 0; n < names; n++) {
            add(x.cut(k, 0, n));
            add(x.proof(k, 1, n));
            add(x.proof(k, 2, n));
        }
        int rows = x.told(1);
        for (int r = 0; r < rows; r++) {
            add(x.proof(k, 0, r));
        }
        add(x.proof(k, 3, 0));
        add(x.check(k));
        add(x.strength(k, 0));
        add(x.strength(k, 1));
        add(x.holds(k));
        text.append('\n');
    }

    private void readFactors() {
        int names = x.told(0);
        int rows = x.told(1);
        for (int r = 0; r < rows; r++) {
            for (int n = 0; n < names; n++) {
                add(x.factor(r, n, 0));
            }
        }
        text.append('\n');
    }

    private void fill() {
        for (int n = x.told(0); n <= 8; n++) {
            add(x.name(0, 1));
        }
        for (int r = x.told(1); r <= 10; r++) {
            add(x.row(1));
        }
    }
}
