import java.math.BigInteger;
import java.util.ArrayList;
import java.util.HashSet;
import java.util.List;
import java.util.Set;

/** The document written a second time, slowly: fractions, lists, and every choice tried. */
final class Oracle {
    /** A fraction in lowest terms, what is below above 0. */
    record Fraction(BigInteger above, BigInteger below) {
        static Fraction of(long above, long below) {
            return reduced(BigInteger.valueOf(above), BigInteger.valueOf(below));
        }

        static Fraction reduced(BigInteger above, BigInteger below) {
            BigInteger g = above.gcd(below);
            return new Fraction(above.divide(g), below.divide(g));
        }

        Fraction plus(Fraction o) {
            return reduced(above.multiply(o.below).add(o.above.multiply(below)), below.multiply(o.below));
        }

        Fraction times(long v) {
            return reduced(above.multiply(BigInteger.valueOf(v)), below);
        }

        Fraction minus(Fraction o) {
            return plus(o.times(-1));
        }

        int sign() {
            return above.signum();
        }
    }

    static final class Name {
        final int low;
        final int high;
        Fraction point = Fraction.of(0, 1);

        Name(int low, int high) {
            this.low = low;
            this.high = high;
        }

        boolean binary() {
            return low == 0 && high == 1;
        }
    }

    static final class Row {
        final int right;
        final int[] f = new int[8];

        Row(int right) {
            this.right = right;
        }
    }

    static final class Told {
        final int kind;
        int[] f;
        int right;
        int age;
        int[] rowTimes = new int[10];
        int[] lows = new int[8];
        int[] highs = new int[8];
        int d;
        int row;

        Told(int kind) {
            this.kind = kind;
            f = new int[8];
        }
    }

    private final List<Name> names = new ArrayList<>();
    private final List<Row> rows = new ArrayList<>();
    private final List<Told> cuts = new ArrayList<>();
    private int closed = 1;

    long name(int low, int high) {
        if (low < -30 || low > 30 || high < -30 || high > 30 || high < low) return -2;
        if (names.size() == 8) return -4;
        names.add(new Name(low, high));
        cuts.clear();
        return names.size() - 1;
    }

    long row(int right) {
        if (right < -9999 || right > 9999) return -2;
        if (rows.size() == 10) return -4;
        rows.add(new Row(right));
        cuts.clear();
        return rows.size() - 1;
    }

    long factor(int row, int name, int v) {
        if (row < 0 || row >= rows.size()) return -1;
        if (name < 0 || name >= names.size()) return -1;
        if (v < -50 || v > 50) return -2;
        int was = rows.get(row).f[name];
        rows.get(row).f[name] = v;
        cuts.clear();
        return was;
    }

    long point(int name, int above, int below) {
        if (name < 0 || name >= names.size()) return -1;
        if (below < 1 || below > 12 || above < -400 || above > 400) return -2;
        names.get(name).point = Fraction.of(above, below);
        return 1;
    }

    private Fraction strengthOf(Told c) {
        Fraction sum = Fraction.of(0, 1);
        for (int n = 0; n < names.size(); n++) {
            sum = sum.plus(names.get(n).point.times(c.f[n]));
        }
        return sum.minus(Fraction.of(c.right, 1));
    }

    private boolean isThere(Told c) {
        for (Told o : cuts) {
            if (o.right == c.right && java.util.Arrays.equals(o.f, c.f)) return true;
        }
        return false;
    }

    private static int down(long v, int d) {
        return Fraction.of(v, 1).above.subtract(BigInteger.valueOf(v).mod(BigInteger.valueOf(d)))
            .divide(BigInteger.valueOf(d)).intValueExact();
    }

    long find(int kind) {
        if (kind < 0 || kind > 3) return -2;
        List<Told> come = kind == 0 ? halves() : kind == 1 ? rounded() : kind == 2 ? covers() : cliques();
        closed = 1;
        int taken = 0;
        for (Told c : come) {
            if (strengthOf(c).sign() <= 0 || isThere(c)) continue;
            if (cuts.size() == 40) {
                closed = 0;
                break;
            }
            cuts.add(c);
            taken++;
        }
        return taken;
    }

    private List<Told> halves() {
        List<Told> come = new ArrayList<>();
        for (int set = 1; set < 1 << rows.size(); set++) {
            Told c = new Told(0);
            c.d = 2;
            long right = 0;
            for (int r = 0; r < rows.size(); r++) {
                if ((set & 1 << r) == 0) continue;
                c.rowTimes[r] = 1;
                right += rows.get(r).right;
                for (int n = 0; n < names.size(); n++) {
                    c.f[n] += rows.get(r).f[n];
                }
            }
            for (int n = 0; n < names.size(); n++) {
                Name m = names.get(n);
                if (c.f[n] % 2 == 0) continue;
                Fraction toHigh = Fraction.of(m.high, 1).minus(m.point);
                Fraction toLow = m.point.minus(Fraction.of(m.low, 1));
                if (toHigh.minus(toLow).sign() <= 0) {
                    c.highs[n] = 1;
                    c.f[n]++;
                    right += m.high;
                } else {
                    c.lows[n] = 1;
                    c.f[n]--;
                    right -= m.low;
                }
            }
            for (int n = 0; n < names.size(); n++) {
                c.f[n] = down(c.f[n], 2);
            }
            c.right = down(right, 2);
            come.add(c);
        }
        return come;
    }

    private List<Told> rounded() {
        List<Told> come = new ArrayList<>();
        for (int r = 0; r < rows.size(); r++) {
            for (int d = 2; d <= 9; d++) {
                Told c = new Told(1);
                c.rowTimes[r] = 1;
                c.d = d;
                long right = rows.get(r).right;
                for (int n = 0; n < names.size(); n++) {
                    Name m = names.get(n);
                    int f = rows.get(r).f[n];
                    int q = f - d * down(f, d);
                    if (q != 0) {
                        Fraction aboveLow = m.point.minus(Fraction.of(m.low, 1)).times(q);
                        Fraction belowHigh = Fraction.of(m.high, 1).minus(m.point).times(d - q);
                        if (aboveLow.minus(belowHigh).sign() <= 0) {
                            c.lows[n] = q;
                            f -= q;
                            right -= (long) q * m.low;
                        } else {
                            c.highs[n] = d - q;
                            f += d - q;
                            right += (long) (d - q) * m.high;
                        }
                    }
                    c.f[n] = down(f, d);
                }
                c.right = down(right, d);
                come.add(c);
            }
        }
        return come;
    }

    private int least(Row row, int n) {
        int least = Integer.MAX_VALUE;
        for (int v = names.get(n).low; v <= names.get(n).high; v++) {
            least = Math.min(least, row.f[n] * v);
        }
        return least;
    }

    private List<Told> covers() {
        List<Told> come = new ArrayList<>();
        for (int r = 0; r < rows.size(); r++) {
            Row row = rows.get(r);
            List<Integer> literals = new ArrayList<>();
            int capacity = row.right;
            for (int n = 0; n < names.size(); n++) {
                if (!names.get(n).binary()) capacity -= least(row, n);
                else if (row.f[n] != 0) literals.add(n);
                if (names.get(n).binary() && row.f[n] < 0) capacity += -row.f[n];
            }
            for (int set = 1; set < 1 << literals.size(); set++) {
                int weight = weightOf(row, literals, set);
                boolean cover = weight > capacity;
                for (int j = 0; j < literals.size(); j++) {
                    if ((set & 1 << j) != 0 && weightOf(row, literals, set ^ 1 << j) > capacity) cover = false;
                }
                if (cover) come.add(lifted(r, literals, set, capacity));
            }
        }
        return come;
    }

    private static int weightOf(Row row, List<Integer> literals, int set) {
        int sum = 0;
        for (int j = 0; j < literals.size(); j++) {
            if ((set & 1 << j) != 0) sum += Math.abs(row.f[literals.get(j)]);
        }
        return sum;
    }

    private Told lifted(int r, List<Integer> literals, int set, int capacity) {
        Row row = rows.get(r);
        int n = Integer.bitCount(set);
        int[] alpha = new int[8];
        int have = set;
        for (int j = 0; j < literals.size(); j++) {
            if ((set & 1 << j) != 0) alpha[j] = 1;
        }
        for (int j = 0; j < literals.size(); j++) {
            if ((set & 1 << j) != 0) continue;
            int room = capacity - Math.abs(row.f[literals.get(j)]);
            int greatest = 0;
            for (int some = 0; some < 1 << literals.size(); some++) {
                if ((some & ~have) != 0 || weightOf(row, literals, some) > room) continue;
                int sum = 0;
                for (int i = 0; i < literals.size(); i++) {
                    if ((some & 1 << i) != 0) sum += alpha[i];
                }
                greatest = Math.max(greatest, sum);
            }
            alpha[j] = room < 0 ? n - 1 : n - 1 - greatest;
            have |= 1 << j;
        }
        Told c = new Told(2);
        c.row = r;
        c.right = n - 1;
        for (int j = 0; j < literals.size(); j++) {
            boolean negative = row.f[literals.get(j)] < 0;
            c.f[literals.get(j)] = negative ? -alpha[j] : alpha[j];
            if (negative) c.right -= alpha[j];
        }
        return c;
    }

    private boolean clash(int a, int b) {
        for (Row row : rows) {
            int sum = row.f[a] + row.f[b];
            for (int n = 0; n < names.size(); n++) {
                if (n != a && n != b) sum += least(row, n);
            }
            if (sum > row.right) return true;
        }
        return false;
    }

    private List<Told> cliques() {
        List<Told> come = new ArrayList<>();
        Set<Integer> pairs = new HashSet<>();
        for (int a = 0; a < names.size(); a++) {
            for (int b = 0; b < names.size(); b++) {
                if (a != b && clash(a, b)) pairs.add(a * 8 + b);
            }
        }
        for (int set = 1; set < 1 << names.size(); set++) {
            List<Integer> in = new ArrayList<>();
            boolean fits = true;
            for (int n = 0; n < names.size(); n++) {
                if ((set & 1 << n) == 0) continue;
                in.add(n);
                if (!names.get(n).binary()) fits = false;
            }
            if (!fits || in.size() < 2) continue;
            for (int a : in) {
                for (int b : in) {
                    if (a != b && !pairs.contains(a * 8 + b)) fits = false;
                }
            }
            for (int o = 0; o < names.size(); o++) {
                if (in.contains(o) || !names.get(o).binary()) continue;
                boolean withEach = true;
                for (int a : in) {
                    if (!pairs.contains(a * 8 + o)) withEach = false;
                }
                if (withEach) fits = false;
            }
            if (!fits) continue;
            Told c = new Told(3);
            for (int n : in) {
                c.f[n] = 1;
            }
            c.right = 1;
            come.add(c);
        }
        return come;
    }

    long closed() {
        return closed;
    }

    private boolean noCut(int k) {
        return k < 0 || k >= cuts.size();
    }

    private boolean noName(int n) {
        return n < 0 || n >= names.size();
    }

    String cut(int k, int what, int i) {
        if (noCut(k) || what == 0 && noName(i)) return Answers.NO_INDEX;
        if (what < 0 || what > 3) return Answers.NO_ARGUMENT;
        Told c = cuts.get(k);
        return Integer.toString(what == 0 ? c.f[i] : what == 1 ? c.right : what == 2 ? c.kind : c.age);
    }

    private long refusal(Told c, int what, int i) {
        if (what < 0 || what > 3) return -2;
        if (c.kind == 3 || c.kind == 2 && what > 0) return -1;
        if (c.kind == 2) return i == 0 ? 0 : -2;
        if (what == 0) return i < 0 || i >= rows.size() ? -1 : 0;
        if (what == 3) return i == 0 ? 0 : -2;
        return noName(i) ? -1 : 0;
    }

    long proof(int k, int what, int i) {
        if (noCut(k)) return -1;
        Told c = cuts.get(k);
        if (refusal(c, what, i) != 0) return refusal(c, what, i);
        if (c.kind == 2) return c.row;
        return what == 0 ? c.rowTimes[i] : what == 1 ? c.lows[i] : what == 2 ? c.highs[i] : c.d;
    }

    long plant(int k, int what, int i, int v) {
        if (noCut(k)) return -1;
        Told c = cuts.get(k);
        if (what < 0 || what > 5) return -2;
        long refusal = what == 0 ? noName(i) ? -1 : 0 : what == 1 ? i == 0 ? 0 : -2 : refusal(c, what - 2, i);
        if (refusal != 0) return refusal;
        if (v < -1000 || v > 1000) return -2;
        if (what == 0) c.f[i] = v;
        else if (what == 1) c.right = v;
        else if (c.kind == 2) c.row = v;
        else if (what == 2) c.rowTimes[i] = v;
        else if (what == 3) c.lows[i] = v;
        else if (what == 4) c.highs[i] = v;
        else c.d = v;
        return 1;
    }

    long check(int k) {
        if (noCut(k)) return -1;
        Told c = cuts.get(k);
        return (c.kind < 2 ? acceptsSum(c) : c.kind == 2 ? acceptsCover(c) : acceptsClique(c)) ? 1 : 0;
    }

    private boolean acceptsSum(Told c) {
        if (c.d < 1) return false;
        long right = 0;
        long[] f = new long[8];
        for (int r = 0; r < rows.size(); r++) {
            if (c.rowTimes[r] < 0) return false;
            right += (long) c.rowTimes[r] * rows.get(r).right;
            for (int n = 0; n < names.size(); n++) {
                f[n] += (long) c.rowTimes[r] * rows.get(r).f[n];
            }
        }
        for (int n = 0; n < names.size(); n++) {
            if (c.lows[n] < 0 || c.highs[n] < 0) return false;
            f[n] += c.highs[n] - c.lows[n];
            right += (long) c.highs[n] * names.get(n).high - (long) c.lows[n] * names.get(n).low;
            if (f[n] != (long) c.f[n] * c.d) return false;
        }
        return c.right >= down(right, c.d);
    }

    private boolean acceptsCover(Told c) {
        if (c.row < 0 || c.row >= rows.size()) return false;
        Row row = rows.get(c.row);
        for (int n = 0; n < names.size(); n++) {
            if (c.f[n] != 0 && !names.get(n).binary()) return false;
        }
        for (int set = 0; set < 1 << names.size(); set++) {
            long sum = 0;
            long cutSum = 0;
            for (int n = 0; n < names.size(); n++) {
                int v = set >> n & 1;
                sum += c.f[n] == 0 ? least(row, n) : row.f[n] * v;
                cutSum += (long) c.f[n] * v;
            }
            if (sum <= row.right && cutSum > c.right) return false;
        }
        return true;
    }

    private boolean acceptsClique(Told c) {
        boolean fits = c.right >= 1;
        for (int a = 0; a < names.size(); a++) {
            if (c.f[a] != 0 && c.f[a] != 1) fits = false;
            if (c.f[a] == 1 && !names.get(a).binary()) fits = false;
            for (int b = 0; b < a; b++) {
                if (c.f[a] == 1 && c.f[b] == 1 && !clash(a, b)) fits = false;
            }
        }
        return fits;
    }

    String strength(int k, int part) {
        if (noCut(k)) return Answers.NO_INDEX;
        if (part < 0 || part > 1) return Answers.NO_ARGUMENT;
        Fraction s = strengthOf(cuts.get(k));
        return (part == 0 ? s.above : s.below).toString();
    }

    long best() {
        int best = -1;
        for (int k = 0; k < cuts.size(); k++) {
            if (best < 0 || strengthOf(cuts.get(k)).minus(strengthOf(cuts.get(best))).sign() > 0) best = k;
        }
        return best;
    }

    private boolean tooMany() {
        BigInteger product = BigInteger.ONE;
        for (Name n : names) {
            product = product.multiply(BigInteger.valueOf(n.high - n.low + 1));
        }
        return product.compareTo(BigInteger.valueOf(20000)) > 0;
    }

    /** How many plans, from the n-th name on, do not keep the cut; with no cut: how many there are. */
    private int countFrom(int n, int[] chosen, Told unless) {
        if (n == names.size()) {
            for (Row row : rows) {
                if (sum(row.f, chosen) > row.right) return 0;
            }
            return unless == null || sum(unless.f, chosen) > unless.right ? 1 : 0;
        }
        int count = 0;
        for (int v = names.get(n).low; v <= names.get(n).high; v++) {
            chosen[n] = v;
            count += countFrom(n + 1, chosen, unless);
        }
        return count;
    }

    private static long sum(int[] f, int[] chosen) {
        long sum = 0;
        for (int n = 0; n < 8; n++) {
            sum += (long) f[n] * chosen[n];
        }
        return sum;
    }

    long holds(int k) {
        if (noCut(k)) return -1;
        if (tooMany()) return -4;
        return countFrom(0, new int[8], cuts.get(k)) == 0 ? 1 : 0;
    }

    long plans() {
        return tooMany() ? -4 : countFrom(0, new int[8], null);
    }

    long turn() {
        int went = 0;
        for (int k = cuts.size() - 1; k >= 0; k--) {
            Told c = cuts.get(k);
            c.age = strengthOf(c).sign() < 0 ? c.age + 1 : 0;
            if (c.age == 3) {
                cuts.remove(k);
                went++;
            }
        }
        return went;
    }

    long told(int what) {
        int broken = 0;
        int accepted = 0;
        for (int k = 0; k < cuts.size(); k++) {
            if (strengthOf(cuts.get(k)).sign() > 0) broken++;
            accepted += (int) check(k);
        }
        return what == 0 ? names.size() : what == 1 ? rows.size() : what == 2 ? cuts.size()
            : what == 3 ? broken : what == 4 ? accepted : -2;
    }

    void clear() {
        names.clear();
        rows.clear();
        cuts.clear();
        closed = 1;
    }
}
