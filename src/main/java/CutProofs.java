import java.util.Arrays;

/** Cuts for plans in whole numbers, each with what shows it, and a checker that reads only that. */
public final class CutProofs {
    public static final int NONE = -1, BAD = -2, FULL = -4;

    private static final int MOST_NAMES = 8, MOST_ROWS = 10, MOST_CUTS = 40;
    private static final int MOST_BOUND = 30, MOST_RIGHT = 9999, MOST_FACTOR = 50;
    private static final int MOST_ABOVE = 400, MOST_BELOW = 12, MOST_PLANTED = 1000;
    private static final int MOST_CHOICES = 20000, AGE_TO_GO = 3, MOST_DIVISOR = 9;

    private static final int HALVES = 0, ROUNDED = 1, COVERS = 2, CLIQUES = 3;
    private static final int ROW_SHOWN = 0, LOW_SHOWN = 1, HIGH_SHOWN = 2, DIVISOR_SHOWN = 3;
    private static final int ALLOWED = 0;

    /** Each of 1 .. 12 divides it, so that the point times it is whole and strengths stay exact. */
    private static final int SCALE = 27720;

    private final Model model;
    private final CutList cuts;
    private final RoundingSearch rounding;
    private final CoverSearch covers;
    private final CliqueSearch cliques;
    private final Checker checker;
    private final ChoiceWalk walk;

    public CutProofs() {
        model = new Model();
        cuts = new CutList(model);
        rounding = new RoundingSearch(model, cuts);
        covers = new CoverSearch(model, cuts);
        cliques = new CliqueSearch(model, cuts);
        checker = new Checker(model);
        walk = new ChoiceWalk(model);
    }

    public int name(int low, int high) {
        if (isBeyond(low, MOST_BOUND) || isBeyond(high, MOST_BOUND) || high < low) return BAD;
        if (model.names >= MOST_NAMES) return FULL;
        cuts.count = 0;
        return model.addName(low, high);
    }

    public int row(int right) {
        if (isBeyond(right, MOST_RIGHT)) return BAD;
        if (model.rows >= MOST_ROWS) return FULL;
        cuts.count = 0;
        return model.addRow(right);
    }

    public int factor(int row, int name, int v) {
        if (!model.hasRow(row) || !model.hasName(name)) return NONE;
        if (isBeyond(v, MOST_FACTOR)) return BAD;
        int before = model.factors[row][name];
        model.factors[row][name] = v;
        cuts.count = 0;
        return before;
    }

    public int point(int name, int above, int below) {
        if (!model.hasName(name)) return NONE;
        if (below < 1 || below > MOST_BELOW || isBeyond(above, MOST_ABOVE)) return BAD;
        model.scaledPoint[name] = (long) above * (SCALE / below);
        return 1;
    }

    public int find(int kind) {
        if (kind < HALVES || kind > CLIQUES) return BAD;
        int before = cuts.count;
        cuts.tookAll = true;
        switch (kind) {
            case HALVES: rounding.seekHalves(); break;
            case ROUNDED: rounding.seekRounded(); break;
            case COVERS: covers.seekCovers(); break;
            default: cliques.seekCliques(); break;
        }
        return cuts.count - before;
    }

    public int closed() {
        return cuts.tookAll ? 1 : 0;
    }

    public int cut(int k, int what, int i) throws IndexOutOfBoundsException, IllegalArgumentException {
        if (!cuts.has(k)) throw new IndexOutOfBoundsException("there is no such cut");
        Cut cut = cuts.slots[k];
        switch (what) {
            case 0:
                if (!model.hasName(i)) throw new IndexOutOfBoundsException("there is no such name");
                return cut.factors[i];
            case 1: return cut.right;
            case 2: return cut.kind;
            case 3: return cut.age;
            default: throw new IllegalArgumentException("a cut has no such part");
        }
    }

    public int proof(int k, int what, int i) {
        if (!cuts.has(k)) return NONE;
        Cut cut = cuts.slots[k];
        int refusal = refusalOfShown(cut, what, i);
        return refusal == ALLOWED ? cut.shown(what, i) : refusal;
    }

    public int plant(int k, int what, int i, int v) {
        if (!cuts.has(k)) return NONE;
        Cut cut = cuts.slots[k];
        int refusal = refusalOfPlanted(cut, what, i);
        if (refusal != ALLOWED) return refusal;
        if (isBeyond(v, MOST_PLANTED)) return BAD;
        switch (what) {
            case 0: cut.factors[i] = v; break;
            case 1: cut.right = v; break;
            default: cut.showOtherwise(what - 2, i, v); break;
        }
        return 1;
    }

    public int check(int k) {
        if (!cuts.has(k)) return NONE;
        return checker.accepts(cuts.slots[k]) ? 1 : 0;
    }

    public long strength(int k, int part) throws IndexOutOfBoundsException, IllegalArgumentException {
        if (!cuts.has(k)) throw new IndexOutOfBoundsException("there is no such cut");
        if (part != 0 && part != 1) throw new IllegalArgumentException("a strength has no such part");
        long above = model.scaledStrength(cuts.slots[k]);
        long common = commonWithScale(above);
        return part == 0 ? above / common : SCALE / common;
    }

    public int best() {
        int best = NONE;
        long most = 0;
        for (int k = 0; k < cuts.count; k++) {
            long own = model.scaledStrength(cuts.slots[k]);
            if (best == NONE || own > most) {
                best = k;
                most = own;
            }
        }
        return best;
    }

    public int holds(int k) {
        if (!cuts.has(k)) return NONE;
        long choices = model.choices();
        if (choices > MOST_CHOICES) return FULL;
        Cut cut = cuts.slots[k];
        walk.begin();
        for (int c = 0; c < choices; c++) {
            if (walk.isPlan() && !walk.keeps(cut)) return 0;
            walk.advance();
        }
        return 1;
    }

    public int plans() {
        long choices = model.choices();
        if (choices > MOST_CHOICES) return FULL;
        int found = 0;
        walk.begin();
        for (int c = 0; c < choices; c++) {
            if (walk.isPlan()) found++;
            walk.advance();
        }
        return found;
    }

    public int turn() {
        return cuts.ageAll();
    }

    public int told(int what) {
        switch (what) {
            case 0: return model.names;
            case 1: return model.rows;
            case 2: return cuts.count;
            case 3: return countBroken();
            case 4: return countAccepted();
            default: return BAD;
        }
    }

    public void clear() {
        model.names = 0;
        model.rows = 0;
        cuts.count = 0;
        cuts.tookAll = true;
    }

    private int countBroken() {
        int broken = 0;
        for (int k = 0; k < cuts.count; k++) {
            if (model.scaledStrength(cuts.slots[k]) > 0) broken++;
        }
        return broken;
    }

    private int countAccepted() {
        int accepted = 0;
        for (int k = 0; k < cuts.count; k++) {
            if (checker.accepts(cuts.slots[k])) accepted++;
        }
        return accepted;
    }

    private int refusalOfPlanted(Cut cut, int what, int i) {
        switch (what) {
            case 0: return model.hasName(i) ? ALLOWED : NONE;
            case 1: return i == 0 ? ALLOWED : BAD;
            case 2: case 3: case 4: case 5: return refusalOfShown(cut, what - 2, i);
            default: return BAD;
        }
    }

    /** NONE of a kind without such a thing stands before BAD of an i, as the document names them. */
    private int refusalOfShown(Cut cut, int what, int i) {
        if (what < ROW_SHOWN || what > DIVISOR_SHOWN) return BAD;
        if (cut.kind == CLIQUES) return NONE;
        if (cut.kind == COVERS && what != ROW_SHOWN) return NONE;
        if (cut.kind == COVERS || what == DIVISOR_SHOWN) return i == 0 ? ALLOWED : BAD;
        boolean isThere = what == ROW_SHOWN ? model.hasRow(i) : model.hasName(i);
        return isThere ? ALLOWED : NONE;
    }

    private static boolean isBeyond(int v, int most) {
        return v < -most || v > most;
    }

    /** The greatest divisor of both; Euclid's steps from SCALE are far fewer than the bound. */
    private static long commonWithScale(long v) {
        long a = SCALE;
        long b = Math.abs(v) % SCALE;
        for (int step = 0; step < 100 && b != 0; step++) {
            long left = a % b;
            a = b;
            b = left;
        }
        return Math.max(a, 1);
    }

    private static boolean isIn(int set, int n) {
        return (set >> n & 1) == 1;
    }

    /** The names with their bounds and the point, and the rows. */
    private static final class Model {
        final int[] low = new int[MOST_NAMES];
        final int[] high = new int[MOST_NAMES];
        final long[] scaledPoint = new long[MOST_NAMES];
        final int[][] factors = new int[MOST_ROWS][MOST_NAMES];
        final int[] rights = new int[MOST_ROWS];
        int names;
        int rows;

        boolean hasName(int n) {
            return n >= 0 && n < names;
        }

        boolean hasRow(int r) {
            return r >= 0 && r < rows;
        }

        /** Called only while there is room; its factors are 0 since addRow wiped the whole of each row. */
        int addName(int lowest, int highest) {
            low[names] = lowest;
            high[names] = highest;
            scaledPoint[names] = 0;
            return names++;
        }

        /** Called only while there is room; wipes out what a row before clear left behind, for all names. */
        int addRow(int right) {
            rights[rows] = right;
            Arrays.fill(factors[rows], 0);
            return rows++;
        }

        boolean isBinary(int n) {
            return low[n] == 0 && high[n] == 1;
        }

        int least(int r, int n) {
            return factors[r][n] * (factors[r][n] < 0 ? high[n] : low[n]);
        }

        boolean clashAnywhere(int a, int b) {
            for (int r = 0; r < rows; r++) {
                if (clashIn(r, a, b)) return true;
            }
            return false;
        }

        private boolean clashIn(int r, int a, int b) {
            int sum = factors[r][a] + factors[r][b];
            for (int n = 0; n < names; n++) {
                if (n != a && n != b) sum += least(r, n);
            }
            return sum > rights[r];
        }

        /** At most 61 to the 8th, which a long holds. */
        long choices() {
            long product = 1;
            for (int n = 0; n < names; n++) {
                product *= high[n] - low[n] + 1;
            }
            return product;
        }

        /** SCALE times the strength. */
        long scaledStrength(Cut cut) {
            long sum = 0;
            for (int n = 0; n < names; n++) {
                sum += cut.factors[n] * scaledPoint[n];
            }
            return sum - (long) cut.right * SCALE;
        }
    }

    /** A cut with what shows it; which of the showing fields count depends on its kind. */
    private static final class Cut {
        final int[] factors = new int[MOST_NAMES];
        final int[] rowTimes = new int[MOST_ROWS];
        final int[] lowTimes = new int[MOST_NAMES];
        final int[] highTimes = new int[MOST_NAMES];
        int right;
        int kind;
        int age;
        int divisor;
        int coverRow;

        void begin(int newKind) {
            Arrays.fill(factors, 0);
            Arrays.fill(rowTimes, 0);
            Arrays.fill(lowTimes, 0);
            Arrays.fill(highTimes, 0);
            right = 0;
            kind = newKind;
            age = 0;
            divisor = 0;
            coverRow = 0;
        }

        boolean saysTheSameAs(Cut other, int names) {
            if (right != other.right) return false;
            for (int n = 0; n < names; n++) {
                if (factors[n] != other.factors[n]) return false;
            }
            return true;
        }

        /** what and i were looked at by refusalOfShown. */
        int shown(int what, int i) {
            switch (what) {
                case ROW_SHOWN: return kind == COVERS ? coverRow : rowTimes[i];
                case LOW_SHOWN: return lowTimes[i];
                case HIGH_SHOWN: return highTimes[i];
                default: return divisor;
            }
        }

        /** what and i were looked at by refusalOfShown. */
        void showOtherwise(int what, int i, int v) {
            switch (what) {
                case ROW_SHOWN:
                    if (kind == COVERS) coverRow = v;
                    else rowTimes[i] = v;
                    break;
                case LOW_SHOWN: lowTimes[i] = v; break;
                case HIGH_SHOWN: highTimes[i] = v; break;
                default: divisor = v; break;
            }
        }
    }

    /** The cuts by number; the slot behind the last one holds the draft, so that a search makes no object. */
    private static final class CutList {
        final Cut[] slots = new Cut[MOST_CUTS + 1];
        int count;
        boolean tookAll = true;
        private final Model model;

        CutList(Model model) {
            this.model = model;
            for (int k = 0; k < slots.length; k++) {
                slots[k] = new Cut();
            }
        }

        boolean has(int k) {
            return k >= 0 && k < count;
        }

        Cut newDraft(int kind) {
            Cut draft = slots[count];
            draft.begin(kind);
            return draft;
        }

        /** Takes the draft if it is to be taken; false: it was, but had no room, and the search ends. */
        boolean settleDraft() {
            if (model.scaledStrength(slots[count]) <= 0 || isToldAlready(slots[count])) return true;
            if (count >= MOST_CUTS) {
                tookAll = false;
                return false;
            }
            count++;
            return true;
        }

        private boolean isToldAlready(Cut draft) {
            for (int k = 0; k < count; k++) {
                if (slots[k].saysTheSameAs(draft, model.names)) return true;
            }
            return false;
        }

        int ageAll() {
            int kept = 0;
            int before = count;
            for (int k = 0; k < before; k++) {
                Cut cut = slots[k];
                cut.age = model.scaledStrength(cut) < 0 ? cut.age + 1 : 0;
                if (cut.age >= AGE_TO_GO) continue;
                slots[k] = slots[kept];
                slots[kept] = cut;
                kept++;
            }
            count = kept;
            return before - kept;
        }
    }

    /** Kinds 0 and 1: rows and bounds are summed so that a divisor goes into every factor. */
    private static final class RoundingSearch {
        private final Model model;
        private final CutList cuts;
        private final int[] sumFactors = new int[MOST_NAMES];
        private int sumRight;

        RoundingSearch(Model model, CutList cuts) {
            this.model = model;
            this.cuts = cuts;
        }

        void seekHalves() {
            Arrays.fill(sumFactors, 0);
            sumRight = 0;
            for (int set = 1; set < 1 << model.rows; set++) {
                moveSumTo(set);
                if (!tryHalves(set)) return;
            }
        }

        void seekRounded() {
            for (int r = 0; r < model.rows; r++) {
                for (int d = 2; d <= MOST_DIVISOR; d++) {
                    if (!tryRounded(r, d)) return;
                }
            }
        }

        /** The sum stands at set - 1: only the few rows in which the two differ are moved. */
        private void moveSumTo(int set) {
            int moved = set ^ (set - 1);
            for (int r = 0; r < model.rows && isIn(moved, r); r++) {
                int sign = isIn(set, r) ? 1 : -1;
                for (int n = 0; n < model.names; n++) {
                    sumFactors[n] += sign * model.factors[r][n];
                }
                sumRight += sign * model.rights[r];
            }
        }

        private boolean tryHalves(int set) {
            Cut draft = cuts.newDraft(HALVES);
            for (int r = 0; r < model.rows; r++) {
                draft.rowTimes[r] = isIn(set, r) ? 1 : 0;
            }
            draft.divisor = 2;
            draft.right = sumRight;
            for (int n = 0; n < model.names; n++) {
                draft.factors[n] = sumFactors[n];
                if (Math.floorMod(sumFactors[n], 2) == 0) continue;
                if (isHighNearer(n)) takeHigh(draft, n, 1);
                else takeLow(draft, n, 1);
            }
            return divideAndSettle(draft, 2);
        }

        private boolean tryRounded(int r, int d) {
            Cut draft = cuts.newDraft(ROUNDED);
            draft.rowTimes[r] = 1;
            draft.divisor = d;
            draft.right = model.rights[r];
            for (int n = 0; n < model.names; n++) {
                draft.factors[n] = model.factors[r][n];
                int q = Math.floorMod(draft.factors[n], d);
                if (q == 0) continue;
                if (isLowCheaper(n, q, d)) takeLow(draft, n, q);
                else takeHigh(draft, n, d - q);
            }
            return divideAndSettle(draft, d);
        }

        /** Twice the point against low and high together: both distances at once, without a fraction. */
        private boolean isHighNearer(int n) {
            return 2 * model.scaledPoint[n] >= (long) SCALE * (model.low[n] + model.high[n]);
        }

        private boolean isLowCheaper(int n, int q, int d) {
            long aboveLow = model.scaledPoint[n] - (long) SCALE * model.low[n];
            long belowHigh = (long) SCALE * model.high[n] - model.scaledPoint[n];
            return q * aboveLow <= (d - q) * belowHigh;
        }

        private void takeLow(Cut draft, int n, int times) {
            draft.lowTimes[n] = times;
            draft.factors[n] -= times;
            draft.right -= times * model.low[n];
        }

        private void takeHigh(Cut draft, int n, int times) {
            draft.highTimes[n] = times;
            draft.factors[n] += times;
            draft.right += times * model.high[n];
        }

        /** Called with 2 .. 9 alone, which by now goes into each factor. */
        private boolean divideAndSettle(Cut draft, int d) {
            if (d < 1) return true;
            for (int n = 0; n < model.names; n++) {
                draft.factors[n] /= d;
            }
            draft.right = Math.floorDiv(draft.right, d);
            return cuts.settleDraft();
        }
    }

    /** Kind 2: minimal covers of a row's binary names, lifted to the names outside them. */
    private static final class CoverSearch {
        /** No sum of alphas comes up to it: 8 literals have an alpha of 7 at most. */
        private static final int MOST_SUM = MOST_NAMES * MOST_NAMES;
        /** Heavier than all literals of a row and than any capacity. */
        private static final int UNREACHED = 1000000;

        private final Model model;
        private final CutList cuts;
        private final int[] literalNames = new int[MOST_NAMES];
        private final int[] weights = new int[MOST_NAMES];
        private final int[] alphas = new int[MOST_NAMES];
        /** For each sum of alphas the least weight that has it. */
        private final int[] lightest = new int[MOST_SUM + 1];
        private int literals;
        private int capacity;

        CoverSearch(Model model, CutList cuts) {
            this.model = model;
            this.cuts = cuts;
        }

        void seekCovers() {
            for (int r = 0; r < model.rows; r++) {
                readLiterals(r);
                for (int set = 1; set < 1 << literals; set++) {
                    if (isMinimalCover(set) && !tryCover(r, set)) return;
                }
            }
        }

        private void readLiterals(int r) {
            literals = 0;
            capacity = model.rights[r];
            for (int n = 0; n < model.names; n++) {
                int factor = model.factors[r][n];
                if (!model.isBinary(n)) {
                    capacity -= model.least(r, n);
                } else if (factor != 0) {
                    literalNames[literals] = n;
                    weights[literals] = Math.abs(factor);
                    literals++;
                    if (factor < 0) capacity -= factor;
                }
            }
        }

        private boolean isMinimalCover(int set) {
            int sum = 0;
            int lightestIn = UNREACHED;
            for (int j = 0; j < literals; j++) {
                if (!isIn(set, j)) continue;
                sum += weights[j];
                lightestIn = Math.min(lightestIn, weights[j]);
            }
            return sum > capacity && sum - lightestIn <= capacity;
        }

        private boolean tryCover(int r, int set) {
            lift(set);
            Cut draft = cuts.newDraft(COVERS);
            draft.coverRow = r;
            draft.right = Integer.bitCount(set) - 1;
            for (int j = 0; j < literals; j++) {
                int n = literalNames[j];
                if (model.factors[r][n] > 0) {
                    draft.factors[n] = alphas[j];
                } else {
                    draft.factors[n] = -alphas[j];
                    draft.right -= alphas[j];
                }
            }
            return cuts.settleDraft();
        }

        private void lift(int set) {
            int most = Integer.bitCount(set) - 1;
            Arrays.fill(lightest, UNREACHED);
            lightest[0] = 0;
            for (int j = 0; j < literals; j++) {
                if (isIn(set, j)) giveAlpha(j, 1);
            }
            for (int j = 0; j < literals; j++) {
                if (!isIn(set, j)) giveAlpha(j, most - greatestSum(capacity - weights[j]));
            }
        }

        private void giveAlpha(int j, int alpha) {
            alphas[j] = alpha;
            if (alpha <= 0) return;
            for (int sum = MOST_SUM; sum >= alpha; sum--) {
                lightest[sum] = Math.min(lightest[sum], lightest[sum - alpha] + weights[j]);
            }
        }

        /** 0 too where the room is below 0: then the whole of n - 1 is left for the alpha. */
        private int greatestSum(int room) {
            for (int sum = MOST_SUM; sum > 0; sum--) {
                if (lightest[sum] <= room) return sum;
            }
            return 0;
        }
    }

    /** Kind 3: sets of binary names that clash two by two and that no further one joins. */
    private static final class CliqueSearch {
        private final Model model;
        private final CutList cuts;
        private final int[] clashes = new int[MOST_NAMES];
        private int binaries;

        CliqueSearch(Model model, CutList cuts) {
            this.model = model;
            this.cuts = cuts;
        }

        void seekCliques() {
            readBinaries();
            readClashes();
            for (int set = 1; set < 1 << model.names; set++) {
                if (isWidestClique(set) && !tryClique(set)) return;
            }
        }

        private void readBinaries() {
            binaries = 0;
            for (int n = 0; n < model.names; n++) {
                if (model.isBinary(n)) binaries |= 1 << n;
            }
        }

        private void readClashes() {
            Arrays.fill(clashes, 0);
            for (int a = 0; a < model.names; a++) {
                for (int b = a + 1; b < model.names; b++) {
                    if (!isIn(binaries, a) || !isIn(binaries, b) || !model.clashAnywhere(a, b)) continue;
                    clashes[a] |= 1 << b;
                    clashes[b] |= 1 << a;
                }
            }
        }

        private boolean isWidestClique(int set) {
            if (Integer.bitCount(set) < 2 || (set & ~binaries) != 0) return false;
            for (int n = 0; n < model.names; n++) {
                if (!isIn(binaries, n)) continue;
                int others = set & ~(1 << n);
                boolean clashesWithAll = (clashes[n] & others) == others;
                if (clashesWithAll != isIn(set, n)) return false;
            }
            return true;
        }

        private boolean tryClique(int set) {
            Cut draft = cuts.newDraft(CLIQUES);
            for (int n = 0; n < model.names; n++) {
                draft.factors[n] = isIn(set, n) ? 1 : 0;
            }
            draft.right = 1;
            return cuts.settleDraft();
        }
    }

    /** Reads names, rows, the cut and what it shows, and nothing of how it was found. */
    private static final class Checker {
        private final Model model;

        Checker(Model model) {
            this.model = model;
        }

        boolean accepts(Cut cut) {
            switch (cut.kind) {
                case HALVES: case ROUNDED: return acceptsRounding(cut);
                case COVERS: return acceptsCover(cut);
                default: return acceptsClique(cut);
            }
        }

        private boolean acceptsRounding(Cut cut) {
            if (cut.divisor < 1 || isTakenBelowZero(cut)) return false;
            long right = 0;
            for (int r = 0; r < model.rows; r++) {
                right += (long) cut.rowTimes[r] * model.rights[r];
            }
            for (int n = 0; n < model.names; n++) {
                if ((long) cut.factors[n] * cut.divisor != comingFactor(cut, n)) return false;
                right += (long) cut.highTimes[n] * model.high[n] - (long) cut.lowTimes[n] * model.low[n];
            }
            return cut.right >= Math.floorDiv(right, (long) cut.divisor);
        }

        private boolean isTakenBelowZero(Cut cut) {
            for (int r = 0; r < model.rows; r++) {
                if (cut.rowTimes[r] < 0) return true;
            }
            for (int n = 0; n < model.names; n++) {
                if (cut.lowTimes[n] < 0 || cut.highTimes[n] < 0) return true;
            }
            return false;
        }

        private long comingFactor(Cut cut, int n) {
            long sum = (long) cut.highTimes[n] - cut.lowTimes[n];
            for (int r = 0; r < model.rows; r++) {
                sum += (long) cut.rowTimes[r] * model.factors[r][n];
            }
            return sum;
        }

        private boolean acceptsCover(Cut cut) {
            int r = cut.coverRow;
            if (!model.hasRow(r)) return false;
            int used = 0;
            int leasts = 0;
            for (int n = 0; n < model.names; n++) {
                if (cut.factors[n] == 0) leasts += model.least(r, n);
                else if (model.isBinary(n)) used |= 1 << n;
                else return false;
            }
            int room = model.rights[r] - leasts;
            for (int set = 0; set <= used; set++) {
                if ((set & ~used) != 0 || sumOver(model.factors[r], set) > room) continue;
                if (sumOver(cut.factors, set) > cut.right) return false;
            }
            return true;
        }

        private int sumOver(int[] factors, int set) {
            int sum = 0;
            for (int n = 0; n < model.names; n++) {
                if (isIn(set, n)) sum += factors[n];
            }
            return sum;
        }

        private boolean acceptsClique(Cut cut) {
            if (cut.right < 1) return false;
            for (int n = 0; n < model.names; n++) {
                if (cut.factors[n] == 0) continue;
                if (cut.factors[n] != 1 || !model.isBinary(n)) return false;
                for (int m = 0; m < n; m++) {
                    if (cut.factors[m] == 1 && !model.clashAnywhere(m, n)) return false;
                }
            }
            return true;
        }
    }

    /** All choices of numbers from lows to highs, one behind the other, with the rows' sums kept up. */
    private static final class ChoiceWalk {
        private final Model model;
        private final int[] chosen = new int[MOST_NAMES];
        private final int[] sums = new int[MOST_ROWS];

        ChoiceWalk(Model model) {
            this.model = model;
        }

        void begin() {
            Arrays.fill(sums, 0);
            Arrays.fill(chosen, 0);
            for (int n = 0; n < model.names; n++) {
                choose(n, model.low[n]);
            }
        }

        void advance() {
            for (int n = 0; n < model.names; n++) {
                if (chosen[n] < model.high[n]) {
                    choose(n, chosen[n] + 1);
                    return;
                }
                choose(n, model.low[n]);
            }
        }

        private void choose(int n, int v) {
            int more = v - chosen[n];
            chosen[n] = v;
            for (int r = 0; r < model.rows; r++) {
                sums[r] += more * model.factors[r][n];
            }
        }

        boolean isPlan() {
            for (int r = 0; r < model.rows; r++) {
                if (sums[r] > model.rights[r]) return false;
            }
            return true;
        }

        boolean keeps(Cut cut) {
            int sum = 0;
            for (int n = 0; n < model.names; n++) {
                sum += cut.factors[n] * chosen[n];
            }
            return sum <= cut.right;
        }
    }
}
