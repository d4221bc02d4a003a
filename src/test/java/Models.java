/** Objects that several tests start from. */
final class Models {
    private Models() {
    }

    /** Three binary names, two by two at most one, each at a half: one cut of halves, one of cliques. */
    static CutProofs triangle() {
        CutProofs x = binaries(3);
        addRow(x, 1, 1, 1, 0);
        addRow(x, 1, 0, 1, 1);
        addRow(x, 1, 1, 0, 1);
        pointAll(x, 3, 1, 2);
        return x;
    }

    /** 3 a + 3 b + 3 c + 6 d not above 8, each at two thirds: four covers, one of them lifted. */
    static CutProofs knapsack() {
        CutProofs x = binaries(4);
        addRow(x, 8, 3, 3, 3, 6);
        pointAll(x, 4, 2, 3);
        return x;
    }

    /** No names; halves come to 0 not above -(the set as a number), if the weights are powers of 2. */
    static CutProofs negativeRights(int... weights) {
        CutProofs x = new CutProofs();
        for (int w : weights) {
            x.row(-2 * w);
        }
        return x;
    }

    static CutProofs binaries(int count) {
        CutProofs x = new CutProofs();
        for (int n = 0; n < count; n++) {
            x.name(0, 1);
        }
        return x;
    }

    static int addRow(CutProofs x, int right, int... factors) {
        int r = x.row(right);
        for (int n = 0; n < factors.length; n++) {
            x.factor(r, n, factors[n]);
        }
        return r;
    }

    static void pointAll(CutProofs x, int names, int above, int below) {
        for (int n = 0; n < names; n++) {
            x.point(n, above, below);
        }
    }
}
