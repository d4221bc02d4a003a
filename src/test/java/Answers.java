/** Answers as texts, so that a value and a thrown exception can be compared alike. */
final class Answers {
    static final String NO_INDEX = "throws.IndexOutOfBoundsException";
    static final String NO_ARGUMENT = "throws.IllegalArgumentException";

    private Answers() {
    }

    static String cut(CutProofs x, int k, int what, int i) {
        try {
            return Integer.toString(x.cut(k, what, i));
        } catch (RuntimeException e) {
            return "throws." + e.getClass().getSimpleName();
        }
    }

    static String strength(CutProofs x, int k, int part) {
        try {
            return Long.toString(x.strength(k, part));
        } catch (RuntimeException e) {
            return "throws." + e.getClass().getSimpleName();
        }
    }
}
