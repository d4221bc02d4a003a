/** Counts the answers that are not as due; ends the test with exit code 1 if there was one. */
final class Expect {
    private int looked = 0;
    private int wrong = 0;

    void due(String call, long want, long got) {
        looked++;
        if (got != want) tellWrong(call, Long.toString(want), Long.toString(got));
    }

    void due(String call, String want, String got) {
        looked++;
        if (!got.equals(want)) tellWrong(call, want, got);
    }

    /** The answer of a cut: a value, or the name of what it throws. */
    void cut(CutProofs x, int k, int what, int i, String want) {
        due("cut(" + k + ", " + what + ", " + i + ")", want, Answers.cut(x, k, what, i));
    }

    void strength(CutProofs x, int k, int part, String want) {
        due("strength(" + k + ", " + part + ")", want, Answers.strength(x, k, part));
    }

    /** A whole cut: its kind, its right, and its factors. */
    void wholeCut(CutProofs x, int k, int kind, int right, int... factors) {
        cut(x, k, 2, 0, Integer.toString(kind));
        cut(x, k, 1, 0, Integer.toString(right));
        for (int n = 0; n < factors.length; n++) {
            cut(x, k, 0, n, Integer.toString(factors[n]));
        }
    }

    private void tellWrong(String call, String want, String got) {
        wrong++;
        StackTraceElement[] trace = new Throwable().getStackTrace();
        StackTraceElement at = trace[0];
        for (StackTraceElement e : trace) {
            at = e;
            if (!e.getClassName().equals("Expect")) break;
        }
        System.out.println(at + ": " + call + " answered " + got + ", due is " + want);
    }

    void end() {
        System.out.println(looked + " answers, " + wrong + " not as due");
        if (wrong != 0 || looked == 0) System.exit(1);
    }
}
